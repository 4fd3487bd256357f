/-! methods X12_crowd .. X12_readWord: by program (wip/gen) -/
set_option maxRecDepth 100000 in
set_option maxHeartbeats 4000000 in
theorem fX12_crowd_L29_T (v1 : Int32) (v2 : Int32) (σ : St) {k1 : Int32 → Option (Int32 × St)} {kb : Int32 → Int32 → Option (Int32 × St)} (hk1 : ∀ (w3 : Int32), T kX12_crowd cSi σ 81 [(0, .ref 10), (1, .int v1), (2, .int v2), (3, .int w3)] [] (k1 w3)) (hkb : ∀ (w3 : Int32) (w4 : Int32), T kX12_crowd cSi σ 29 [(0, .ref 10), (1, .int v1), (2, .int v2), (3, .int w3), (4, .int w4)] [] (kb w3 w4)) (v3 : Int32) (v4 : Int32) : T kX12_crowd cSi σ 29 [(0, .ref 10), (1, .int v1), (2, .int v2), (3, .int v3), (4, .int v4)] [] (fX12_crowd_L29 v1 v2 k1 kb σ v3 v4) := by
  unfold fX12_crowd_L29
  refine T_iload (pc := 29) 4 dX12_crowd_29 rfl ?_
  refine T_aload_n (pc := 31) 0 dX12_crowd_31 rfl rfl ?_
  refine T_getA (pc := 32) fd_10_28 hw1531 dX12_crowd_32 ?_
  refine T_iload_n (pc := 35) 1 dX12_crowd_35 rfl rfl ?_
  refine T_iald (pc := 36) rfl dX12_crowd_36 (fun x4 => ?_)
  refine T_icmp_ge (pc := 37) 81 dX12_crowd_37 (by decide) (fun _ => ?_) (fun _ => ?_)
  · refine T_pick (lv' := [(0, .ref 10), (1, .int v1), (2, .int v2), (3, .int v3)]) [0, 1, 2, 3] rfl ?_
    exact hk1 v3
  · refine T_aload_n (pc := 40) 0 dX12_crowd_40 rfl rfl ?_
    refine T_getA (pc := 41) fd_10_29 hw1532 dX12_crowd_41 ?_
    refine T_bipush (pc := 44) (v := 20) dX12_crowd_44 (by decide) ?_
    refine T_iload_n (pc := 46) 1 dX12_crowd_46 rfl rfl ?_
    refine T_imul (pc := 47) dX12_crowd_47 ?_
    refine T_iload (pc := 48) 4 dX12_crowd_48 rfl ?_
    refine T_iadd (pc := 50) dX12_crowd_50 ?_
    refine T_iald (pc := 51) rfl dX12_crowd_51 (fun x5 => ?_)
    refine T_callPi (pc := 52) (rest := []) (Rn_S (pc := 52) (as := [.int x5]) (rest := []) (ctJ6_bitCount_0f7a4 σ x5) ms_J6_bitCount_0f7a4 hw2095 rfl ⟨Nat.le_of_ble_eq_true rfl, Nat.le_of_ble_eq_true rfl⟩ (Nat.le_of_ble_eq_true rfl) dX12_crowd_52 rfl) rfl (fun x6 => ?_)
    refine T_aload_n (pc := 55) 0 dX12_crowd_55 rfl rfl ?_
    refine T_getA (pc := 56) fd_10_29 hw1532 dX12_crowd_56 ?_
    refine T_bipush (pc := 59) (v := 20) dX12_crowd_59 (by decide) ?_
    refine T_iload_n (pc := 61) 1 dX12_crowd_61 rfl rfl ?_
    refine T_imul (pc := 62) dX12_crowd_62 ?_
    refine T_iload_n (pc := 63) 3 dX12_crowd_63 rfl rfl ?_
    refine T_iadd (pc := 64) dX12_crowd_64 ?_
    refine T_iald (pc := 65) rfl dX12_crowd_65 (fun x7 => ?_)
    refine T_callPi (pc := 66) (rest := [.int x6]) (Rn_S (pc := 66) (as := [.int x7]) (rest := [.int x6]) (ctJ6_bitCount_0f7a4 σ x7) ms_J6_bitCount_0f7a4 hw2095 rfl ⟨Nat.le_of_ble_eq_true rfl, Nat.le_of_ble_eq_true rfl⟩ (Nat.le_of_ble_eq_true rfl) dX12_crowd_66 rfl) rfl (fun x8 => ?_)
    refine T_icmp_le (pc := 69) 75 dX12_crowd_69 (by decide) (fun _ => ?_) (fun _ => ?_)
    · refine T_iinc (pc := 75) (y := 1) (lv' := [(0, .ref 10), (1, .int v1), (2, .int v2), (3, .int v3), (4, .int (v4 + (1 : Int32)))]) 4 dX12_crowd_75 (by decide) rfl (Nat.le_of_ble_eq_true rfl) rfl ?_
      refine T_goto (pc := 78) 29 dX12_crowd_78 (by decide) ?_
      exact hkb v3 (v4 + (1 : Int32))
    · refine T_iload (pc := 72) 4 dX12_crowd_72 rfl ?_
      refine T_istore_n (pc := 74) (lv' := [(0, .ref 10), (1, .int v1), (2, .int v2), (3, .int v4), (4, .int v4)]) dX12_crowd_74 rfl (Nat.le_of_ble_eq_true rfl) rfl ?_
      refine T_iinc (pc := 75) (y := 1) (lv' := [(0, .ref 10), (1, .int v1), (2, .int v2), (3, .int v4), (4, .int (v4 + (1 : Int32)))]) 4 dX12_crowd_75 (by decide) rfl (Nat.le_of_ble_eq_true rfl) rfl ?_
      refine T_goto (pc := 78) 29 dX12_crowd_78 (by decide) ?_
      exact hkb v4 (v4 + (1 : Int32))
set_option maxRecDepth 100000 in
set_option maxHeartbeats 4000000 in
theorem fX12_crowd_P29_T (v1 : Int32) (v2 : Int32) (σ : St) {k1 : Int32 → Option (Int32 × St)} (hk1 : ∀ (w3 : Int32), T kX12_crowd cSi σ 81 [(0, .ref 10), (1, .int v1), (2, .int v2), (3, .int w3)] [] (k1 w3)) (v3 : Int32) (v4 : Int32) : T kX12_crowd cSi σ 29 [(0, .ref 10), (1, .int v1), (2, .int v2), (3, .int v3), (4, .int v4)] [] (fX12_crowd_P29 v1 v2 k1 σ v3 v4) :=
  it_T (S := (fun _ : Int32 × Int32 => σ)) (lv := fun t : Int32 × Int32 => [(0, .ref 10), (1, .int v1), (2, .int v2), (3, .int t.1), (4, .int t.2)]) (st := fun _ => []) (fun kb hkb t => fX12_crowd_L29_T v1 v2 (hk1 := hk1) (hkb := fun v3 v4 => hkb (v3, v4)) σ t.1 t.2) FU (v3, v4)
set_option maxRecDepth 100000 in
set_option maxHeartbeats 4000000 in
theorem ctX12_crowd (σ : St) (p0 : Int32) (p1 : Int32) : Ct yX12_crowd kX12_crowd [.ref 10, .int p0, .int p1] σ cSi (fX12_crowd σ p0 p1) := by
  refine Ct.of (by decide +kernel) rfl rfl (Nat.le_of_ble_eq_true rfl) ?_
  unfold fX12_crowd
  show T _ _ _ 0 [(0, .ref 10), (1, .int p0), (2, .int p1)] [] _
  refine T_aload_n (pc := 0) 0 dX12_crowd_0 rfl rfl ?_
  refine T_iconst (pc := 1) (v := 0) dX12_crowd_1 (by decide) ?_
  refine T_putI (pc := 2) fd_10_0 hw1503 dX12_crowd_2 ?_
  refine T_letS (fun s1 => ?_)
  refine T_aload_n (pc := 5) 0 dX12_crowd_5 rfl rfl ?_
  refine T_iload_n (pc := 6) 1 dX12_crowd_6 rfl rfl ?_
  refine T_callPz (pc := 7) (rest := []) (Rn_V (pc := 7) (as := [.int p0]) (rest := []) (ctX12_isPlot s1 p0) rfl rfl mv_X12_isPlot hw2056 rfl ⟨Nat.le_of_ble_eq_true rfl, Nat.le_of_ble_eq_true rfl⟩ (Nat.le_of_ble_eq_true rfl) dX12_crowd_7 rfl) rfl (fun x2 => ?_)
  refine T_if_eq (pc := 10) 22 dX12_crowd_10 (by decide) (fun _ => ?_) (fun _ => ?_)
  · refine T_iconst (pc := 22) (v := -1) dX12_crowd_22 (by decide) ?_
    exact T_ireturn (pc := 23) rfl dX12_crowd_23 rfl
  · refine T_iload_n (pc := 13) 2 dX12_crowd_13 rfl rfl ?_
    refine T_iconst (pc := 14) (v := 0) dX12_crowd_14 (by decide) ?_
    refine T_iconst (pc := 15) (v := 1) dX12_crowd_15 (by decide) ?_
    refine T_callPz (pc := 16) (rest := []) (Rn_S (pc := 16) (as := [.int p1, .int (0 : Int32), .int (1 : Int32)]) (rest := []) (ctX12_isIn s1 p1 (0 : Int32) (1 : Int32)) ms_X12_isIn hw1689 rfl ⟨Nat.le_of_ble_eq_true rfl, Nat.le_of_ble_eq_true rfl⟩ (Nat.le_of_ble_eq_true rfl) dX12_crowd_16 rfl) rfl (fun x3 => ?_)
    refine T_if_ne (pc := 19) 24 dX12_crowd_19 (by decide) (fun _ => ?_) (fun _ => ?_)
    · refine T_iconst (pc := 24) (v := 0) dX12_crowd_24 (by decide) ?_
      refine T_istore_n (pc := 25) (lv' := [(0, .ref 10), (1, .int p0), (2, .int p1), (3, .int (0 : Int32))]) dX12_crowd_25 rfl (Nat.le_of_ble_eq_true rfl) rfl ?_
      refine T_iconst (pc := 26) (v := 1) dX12_crowd_26 (by decide) ?_
      refine T_istore (pc := 27) (lv' := [(0, .ref 10), (1, .int p0), (2, .int p1), (3, .int (0 : Int32)), (4, .int (1 : Int32))]) dX12_crowd_27 (Nat.le_of_ble_eq_true rfl) rfl ?_
      refine fX12_crowd_P29_T p0 p1 (hk1 := fun x9 => ?_) s1 (0 : Int32) (1 : Int32)
      · refine T_iload_n (pc := 81) 2 dX12_crowd_81 rfl rfl ?_
        refine T_if_ne (pc := 82) 89 dX12_crowd_82 (by decide) (fun _ => ?_) (fun _ => ?_)
        · refine T_aload_n (pc := 89) 0 dX12_crowd_89 rfl rfl ?_
          refine T_getA (pc := 90) fd_10_29 hw1532 dX12_crowd_90 ?_
          refine T_bipush (pc := 93) (v := 20) dX12_crowd_93 (by decide) ?_
          refine T_iload_n (pc := 95) 1 dX12_crowd_95 rfl rfl ?_
          refine T_imul (pc := 96) dX12_crowd_96 ?_
          refine T_iload_n (pc := 97) 3 dX12_crowd_97 rfl rfl ?_
          refine T_iadd (pc := 98) dX12_crowd_98 ?_
          refine T_iald (pc := 99) rfl dX12_crowd_99 (fun x10 => ?_)
          refine T_callPi (pc := 100) (rest := []) (Rn_S (pc := 100) (as := [.int x10]) (rest := []) (ctJ6_bitCount_0f7a4 s1 x10) ms_J6_bitCount_0f7a4 hw2095 rfl ⟨Nat.le_of_ble_eq_true rfl, Nat.le_of_ble_eq_true rfl⟩ (Nat.le_of_ble_eq_true rfl) dX12_crowd_100 rfl) rfl (fun x11 => ?_)
          exact T_ireturn (pc := 103) rfl dX12_crowd_103 rfl
        · refine T_iload_n (pc := 85) 3 dX12_crowd_85 rfl rfl ?_
          refine T_goto (pc := 86) 103 dX12_crowd_86 (by decide) ?_
          exact T_ireturn (pc := 103) rfl dX12_crowd_103 rfl
    · refine T_iconst (pc := 22) (v := -1) dX12_crowd_22 (by decide) ?_
      exact T_ireturn (pc := 23) rfl dX12_crowd_23 rfl
set_option maxRecDepth 100000 in
set_option maxHeartbeats 4000000 in
theorem ctX12_end (σ : St) (p0 : Int32) : Ct yX12_end kX12_end [.ref 10, .int p0] σ cSz (fX12_end σ p0) := by
  refine Ct.of (by decide +kernel) rfl rfl (Nat.le_of_ble_eq_true rfl) ?_
  unfold fX12_end
  show T _ _ _ 0 [(0, .ref 10), (1, .int p0)] [] _
  refine T_aload_n (pc := 0) 0 dX12_end_0 rfl rfl ?_
  refine T_iconst (pc := 1) (v := 0) dX12_end_1 (by decide) ?_
  refine T_putI (pc := 2) fd_10_0 hw1503 dX12_end_2 ?_
  refine T_letS (fun s1 => ?_)
  refine T_iload_n (pc := 5) 1 dX12_end_5 rfl rfl ?_
  refine T_if_lt (pc := 6) 17 dX12_end_6 (by decide) (fun _ => ?_) (fun _ => ?_)
  · refine T_iconst (pc := 17) (v := 0) dX12_end_17 (by decide) ?_
    exact T_zreturn (pc := 18) false rfl dX12_end_18 rfl rfl
  · refine T_iload_n (pc := 9) 1 dX12_end_9 rfl rfl ?_
    refine T_aload_n (pc := 10) 0 dX12_end_10 rfl rfl ?_
    refine T_getI (pc := 11) fd_10_7 hw1510 dX12_end_11 ?_
    refine T_icmp_le (pc := 14) 19 dX12_end_14 (by decide) (fun _ => ?_) (fun _ => ?_)
    · refine T_aload_n (pc := 19) 0 dX12_end_19 rfl rfl ?_
      refine T_iload_n (pc := 20) 1 dX12_end_20 rfl rfl ?_
      refine T_putI (pc := 21) fd_10_7 hw1510 dX12_end_21 ?_
      refine T_letS (fun s2 => ?_)
      refine T_iconst (pc := 24) (v := 1) dX12_end_24 (by decide) ?_
      exact T_zreturn (pc := 25) true rfl dX12_end_25 rfl rfl
    · refine T_iconst (pc := 17) (v := 0) dX12_end_17 (by decide) ?_
      exact T_zreturn (pc := 18) false rfl dX12_end_18 rfl rfl
set_option maxRecDepth 100000 in
set_option maxHeartbeats 4000000 in
theorem ctX12_isSpeech (σ : St) (p0 : Int32) : Ct yX12_isSpeech kX12_isSpeech [.ref 10, .int p0] σ (cPz σ) (fX12_isSpeech σ p0) := by
  refine Ct.of (by decide +kernel) rfl rfl (Nat.le_of_ble_eq_true rfl) ?_
  unfold fX12_isSpeech
  show T _ _ _ 0 [(0, .ref 10), (1, .int p0)] [] _
  refine T_iload_n (pc := 0) 1 dX12_isSpeech_0 rfl rfl ?_
  refine T_if_lt (pc := 1) 35 dX12_isSpeech_1 (by decide) (fun _ => ?_) (fun _ => ?_)
  · refine T_iconst (pc := 35) (v := 0) dX12_isSpeech_35 (by decide) ?_
    exact T_zreturn (pc := 36) false rfl dX12_isSpeech_36 rfl rfl
  · refine T_aload_n (pc := 4) 0 dX12_isSpeech_4 rfl rfl ?_
    refine T_iload_n (pc := 5) 1 dX12_isSpeech_5 rfl rfl ?_
    refine T_bipush (pc := 6) (v := 16) dX12_isSpeech_6 (by decide) ?_
    refine T_idiv (pc := 8) dX12_isSpeech_8 ?_
    refine T_callPz (pc := 9) (rest := []) (Rn_V (pc := 9) (as := [.int (p0 / (16 : Int32))]) (rest := []) (ctX12_isRoll σ (p0 / (16 : Int32))) rfl rfl mv_X12_isRoll hw1853 rfl ⟨Nat.le_of_ble_eq_true rfl, Nat.le_of_ble_eq_true rfl⟩ (Nat.le_of_ble_eq_true rfl) dX12_isSpeech_9 rfl) rfl (fun x1 => ?_)
    refine T_if_eq (pc := 12) 35 dX12_isSpeech_12 (by decide) (fun _ => ?_) (fun _ => ?_)
    · refine T_iconst (pc := 35) (v := 0) dX12_isSpeech_35 (by decide) ?_
      exact T_zreturn (pc := 36) false rfl dX12_isSpeech_36 rfl rfl
    · refine T_iload_n (pc := 15) 1 dX12_isSpeech_15 rfl rfl ?_
      refine T_bipush (pc := 16) (v := 16) dX12_isSpeech_16 (by decide) ?_
      refine T_irem (pc := 18) dX12_isSpeech_18 ?_
      refine T_aload_n (pc := 19) 0 dX12_isSpeech_19 rfl rfl ?_
      refine T_getA (pc := 20) fd_10_21 hw1524 dX12_isSpeech_20 ?_
      refine T_iload_n (pc := 23) 1 dX12_isSpeech_23 rfl rfl ?_
      refine T_bipush (pc := 24) (v := 16) dX12_isSpeech_24 (by decide) ?_
      refine T_idiv (pc := 26) dX12_isSpeech_26 ?_
      refine T_iald (pc := 27) rfl dX12_isSpeech_27 (fun x2 => ?_)
      refine T_icmp_ge (pc := 28) 35 dX12_isSpeech_28 (by decide) (fun _ => ?_) (fun _ => ?_)
      · refine T_iconst (pc := 35) (v := 0) dX12_isSpeech_35 (by decide) ?_
        exact T_zreturn (pc := 36) false rfl dX12_isSpeech_36 rfl rfl
      · refine T_iconst (pc := 31) (v := 1) dX12_isSpeech_31 (by decide) ?_
        refine T_goto (pc := 32) 36 dX12_isSpeech_32 (by decide) ?_
        exact T_zreturn (pc := 36) true rfl dX12_isSpeech_36 rfl rfl
set_option maxRecDepth 100000 in
set_option maxHeartbeats 4000000 in
theorem ctX12_letter (σ : St) (p0 : Int32) (p1 : Int32) : Ct yX12_letter kX12_letter [.ref 10, .int p0, .int p1] σ (cPi σ) (fX12_letter σ p0 p1) := by
  refine Ct.of (by decide +kernel) rfl rfl (Nat.le_of_ble_eq_true rfl) ?_
  unfold fX12_letter
  show T _ _ _ 0 [(0, .ref 10), (1, .int p0), (2, .int p1)] [] _
  refine T_aload_n (pc := 0) 0 dX12_letter_0 rfl rfl ?_
  refine T_getA (pc := 1) fd_10_2 hw1505 dX12_letter_1 ?_
  refine T_sipush (pc := 4) (v := 200) dX12_letter_4 (by decide) ?_
  refine T_iload_n (pc := 7) 1 dX12_letter_7 rfl rfl ?_
  refine T_bipush (pc := 8) (v := 16) dX12_letter_8 (by decide) ?_
  refine T_idiv (pc := 10) dX12_letter_10 ?_
  refine T_imul (pc := 11) dX12_letter_11 ?_
  refine T_iload_n (pc := 12) 2 dX12_letter_12 rfl rfl ?_
  refine T_iadd (pc := 13) dX12_letter_13 ?_
  refine T_bald (pc := 14) rfl dX12_letter_14 (fun x1 => ?_)
  exact T_ireturn (pc := 15) rfl dX12_letter_15 rfl
set_option maxRecDepth 100000 in
set_option maxHeartbeats 4000000 in
theorem fX12_isWord_L30_T (v1 : Int32) (v2 : Int32) (v3 : Int32) (v4 : Int32) (σ : St) {kb : Int32 → Option Bool} (hkb : ∀ (w5 : Int32), T kX12_isWord (cPz σ) σ 30 [(0, .ref 10), (1, .int v1), (2, .int v2), (3, .int v3), (4, .int v4), (5, .int w5)] [] (kb w5)) (v5 : Int32) : T kX12_isWord (cPz σ) σ 30 [(0, .ref 10), (1, .int v1), (2, .int v2), (3, .int v3), (4, .int v4), (5, .int v5)] [] (fX12_isWord_L30 v1 v2 v3 v4 kb σ v5) := by
  unfold fX12_isWord_L30
  refine T_iload (pc := 30) 5 dX12_isWord_30 rfl ?_
  refine T_aload_n (pc := 32) 0 dX12_isWord_32 rfl rfl ?_
  refine T_getA (pc := 33) fd_10_25 hw1528 dX12_isWord_33 ?_
  refine T_iconst (pc := 36) (v := 2) dX12_isWord_36 (by decide) ?_
  refine T_iload_n (pc := 37) 1 dX12_isWord_37 rfl rfl ?_
  refine T_imul (pc := 38) dX12_isWord_38 ?_
  refine T_iload_n (pc := 39) 2 dX12_isWord_39 rfl rfl ?_
  refine T_iadd (pc := 40) dX12_isWord_40 ?_
  refine T_iald (pc := 41) rfl dX12_isWord_41 (fun x3 => ?_)
  refine T_icmp_ge (pc := 42) 94 dX12_isWord_42 (by decide) (fun _ => ?_) (fun _ => ?_)
  · refine T_iconst (pc := 94) (v := 1) dX12_isWord_94 (by decide) ?_
    exact T_zreturn (pc := 95) true rfl dX12_isWord_95 rfl rfl
  · refine T_aload_n (pc := 45) 0 dX12_isWord_45 rfl rfl ?_
    refine T_iload_n (pc := 46) 1 dX12_isWord_46 rfl rfl ?_
    refine T_aload_n (pc := 47) 0 dX12_isWord_47 rfl rfl ?_
    refine T_getA (pc := 48) fd_10_24 hw1527 dX12_isWord_48 ?_
    refine T_iconst (pc := 51) (v := 2) dX12_isWord_51 (by decide) ?_
    refine T_iload_n (pc := 52) 1 dX12_isWord_52 rfl rfl ?_
    refine T_imul (pc := 53) dX12_isWord_53 ?_
    refine T_iload_n (pc := 54) 2 dX12_isWord_54 rfl rfl ?_
    refine T_iadd (pc := 55) dX12_isWord_55 ?_
    refine T_iald (pc := 56) rfl dX12_isWord_56 (fun x4 => ?_)
    refine T_iload (pc := 57) 5 dX12_isWord_57 rfl ?_
    refine T_iadd (pc := 59) dX12_isWord_59 ?_
    refine T_callPi (pc := 60) (rest := []) (Rn_V (pc := 60) (as := [.int v1, .int (x4 + v5)]) (rest := []) (ctX12_letter σ v1 (x4 + v5)) rfl rfl mv_X12_letter hw1873 rfl ⟨Nat.le_of_ble_eq_true rfl, Nat.le_of_ble_eq_true rfl⟩ (Nat.le_of_ble_eq_true rfl) dX12_isWord_60 rfl) rfl (fun x5 => ?_)
    refine T_aload_n (pc := 63) 0 dX12_isWord_63 rfl rfl ?_
    refine T_iload_n (pc := 64) 3 dX12_isWord_64 rfl rfl ?_
    refine T_aload_n (pc := 65) 0 dX12_isWord_65 rfl rfl ?_
    refine T_getA (pc := 66) fd_10_26 hw1529 dX12_isWord_66 ?_
    refine T_bipush (pc := 69) (v := 12) dX12_isWord_69 (by decide) ?_
    refine T_iload_n (pc := 71) 3 dX12_isWord_71 rfl rfl ?_
    refine T_imul (pc := 72) dX12_isWord_72 ?_
    refine T_iload (pc := 73) 4 dX12_isWord_73 rfl ?_
    refine T_iadd (pc := 75) dX12_isWord_75 ?_
    refine T_iald (pc := 76) rfl dX12_isWord_76 (fun x6 => ?_)
    refine T_iload (pc := 77) 5 dX12_isWord_77 rfl ?_
    refine T_iadd (pc := 79) dX12_isWord_79 ?_
    refine T_callPi (pc := 80) (rest := [.int x5]) (Rn_V (pc := 80) (as := [.int v3, .int (x6 + v5)]) (rest := [.int x5]) (ctX12_letter σ v3 (x6 + v5)) rfl rfl mv_X12_letter hw1873 rfl ⟨Nat.le_of_ble_eq_true rfl, Nat.le_of_ble_eq_true rfl⟩ (Nat.le_of_ble_eq_true rfl) dX12_isWord_80 rfl) rfl (fun x7 => ?_)
    refine T_icmp_eq (pc := 83) 88 dX12_isWord_83 (by decide) (fun _ => ?_) (fun _ => ?_)
    · refine T_iinc (pc := 88) (y := 1) (lv' := [(0, .ref 10), (1, .int v1), (2, .int v2), (3, .int v3), (4, .int v4), (5, .int (v5 + (1 : Int32)))]) 5 dX12_isWord_88 (by decide) rfl (Nat.le_of_ble_eq_true rfl) rfl ?_
      refine T_goto (pc := 91) 30 dX12_isWord_91 (by decide) ?_
      exact hkb (v5 + (1 : Int32))
    · refine T_iconst (pc := 86) (v := 0) dX12_isWord_86 (by decide) ?_
      exact T_zreturn (pc := 87) false rfl dX12_isWord_87 rfl rfl
set_option maxRecDepth 100000 in
set_option maxHeartbeats 4000000 in
theorem fX12_isWord_P30_T (v1 : Int32) (v2 : Int32) (v3 : Int32) (v4 : Int32) (σ : St) (v5 : Int32) : T kX12_isWord (cPz σ) σ 30 [(0, .ref 10), (1, .int v1), (2, .int v2), (3, .int v3), (4, .int v4), (5, .int v5)] [] (fX12_isWord_P30 v1 v2 v3 v4 σ v5) :=
  it_T (S := (fun _ : Int32 => σ)) (lv := fun t : Int32 => [(0, .ref 10), (1, .int v1), (2, .int v2), (3, .int v3), (4, .int v4), (5, .int t)]) (st := fun _ => []) (fun kb hkb t => fX12_isWord_L30_T v1 v2 v3 v4 (hkb := fun v5 => hkb v5) σ t) FU v5
set_option maxRecDepth 100000 in
set_option maxHeartbeats 4000000 in
theorem ctX12_isWord (σ : St) (p0 : Int32) (p1 : Int32) (p2 : Int32) (p3 : Int32) : Ct yX12_isWord kX12_isWord [.ref 10, .int p0, .int p1, .int p2, .int p3] σ (cPz σ) (fX12_isWord σ p0 p1 p2 p3) := by
  refine Ct.of (by decide +kernel) rfl rfl (Nat.le_of_ble_eq_true rfl) ?_
  unfold fX12_isWord
  show T _ _ _ 0 [(0, .ref 10), (1, .int p0), (2, .int p1), (3, .int p2), (4, .int p3)] [] _
  refine T_aload_n (pc := 0) 0 dX12_isWord_0 rfl rfl ?_
  refine T_getA (pc := 1) fd_10_25 hw1528 dX12_isWord_1 ?_
  refine T_iconst (pc := 4) (v := 2) dX12_isWord_4 (by decide) ?_
  refine T_iload_n (pc := 5) 1 dX12_isWord_5 rfl rfl ?_
  refine T_imul (pc := 6) dX12_isWord_6 ?_
  refine T_iload_n (pc := 7) 2 dX12_isWord_7 rfl rfl ?_
  refine T_iadd (pc := 8) dX12_isWord_8 ?_
  refine T_iald (pc := 9) rfl dX12_isWord_9 (fun x1 => ?_)
  refine T_aload_n (pc := 10) 0 dX12_isWord_10 rfl rfl ?_
  refine T_getA (pc := 11) fd_10_27 hw1530 dX12_isWord_11 ?_
  refine T_bipush (pc := 14) (v := 12) dX12_isWord_14 (by decide) ?_
  refine T_iload_n (pc := 16) 3 dX12_isWord_16 rfl rfl ?_
  refine T_imul (pc := 17) dX12_isWord_17 ?_
  refine T_iload (pc := 18) 4 dX12_isWord_18 rfl ?_
  refine T_iadd (pc := 20) dX12_isWord_20 ?_
  refine T_iald (pc := 21) rfl dX12_isWord_21 (fun x2 => ?_)
  refine T_icmp_eq (pc := 22) 27 dX12_isWord_22 (by decide) (fun _ => ?_) (fun _ => ?_)
  · refine T_iconst (pc := 27) (v := 0) dX12_isWord_27 (by decide) ?_
    refine T_istore (pc := 28) (lv' := [(0, .ref 10), (1, .int p0), (2, .int p1), (3, .int p2), (4, .int p3), (5, .int (0 : Int32))]) dX12_isWord_28 (Nat.le_of_ble_eq_true rfl) rfl ?_
    exact fX12_isWord_P30_T p0 p1 p2 p3 σ (0 : Int32)
  · refine T_iconst (pc := 25) (v := 0) dX12_isWord_25 (by decide) ?_
    exact T_zreturn (pc := 26) false rfl dX12_isWord_26 rfl rfl
set_option maxRecDepth 100000 in
set_option maxHeartbeats 4000000 in
theorem fX12_endsIt_L26_T (v1 : Int32) (v2 : Int32) (v3 : Int32) (σ : St) {kb : Int32 → Option Bool} (hkb : ∀ (w4 : Int32), T kX12_endsIt (cPz σ) σ 26 [(0, .ref 10), (1, .int v1), (2, .int v2), (3, .int v3), (4, .int w4)] [] (kb w4)) (v4 : Int32) : T kX12_endsIt (cPz σ) σ 26 [(0, .ref 10), (1, .int v1), (2, .int v2), (3, .int v3), (4, .int v4)] [] (fX12_endsIt_L26 v1 v2 v3 kb σ v4) := by
  unfold fX12_endsIt_L26
  refine T_iload (pc := 26) 4 dX12_endsIt_26 rfl ?_
  refine T_iload_n (pc := 28) 3 dX12_endsIt_28 rfl rfl ?_
  refine T_icmp_ge (pc := 29) 62 dX12_endsIt_29 (by decide) (fun _ => ?_) (fun _ => ?_)
  · refine T_iconst (pc := 62) (v := 1) dX12_endsIt_62 (by decide) ?_
    exact T_zreturn (pc := 63) true rfl dX12_endsIt_63 rfl rfl
  · refine T_aload_n (pc := 32) 0 dX12_endsIt_32 rfl rfl ?_
    refine T_iload_n (pc := 33) 1 dX12_endsIt_33 rfl rfl ?_
    refine T_iload (pc := 34) 4 dX12_endsIt_34 rfl ?_
    refine T_iload_n (pc := 36) 2 dX12_endsIt_36 rfl rfl ?_
    refine T_aload_n (pc := 37) 0 dX12_endsIt_37 rfl rfl ?_
    refine T_getA (pc := 38) fd_10_23 hw1526 dX12_endsIt_38 ?_
    refine T_iload_n (pc := 41) 2 dX12_endsIt_41 rfl rfl ?_
    refine T_iald (pc := 42) rfl dX12_endsIt_42 (fun x3 => ?_)
    refine T_iload_n (pc := 43) 3 dX12_endsIt_43 rfl rfl ?_
    refine T_isub (pc := 44) dX12_endsIt_44 ?_
    refine T_iload (pc := 45) 4 dX12_endsIt_45 rfl ?_
    refine T_iadd (pc := 47) dX12_endsIt_47 ?_
    refine T_callPz (pc := 48) (rest := []) (Rn_V (pc := 48) (as := [.int v1, .int v4, .int v2, .int ((x3 - v3) + v4)]) (rest := []) (ctX12_isWord σ v1 v4 v2 ((x3 - v3) + v4)) rfl rfl mv_X12_isWord hw1869 rfl ⟨Nat.le_of_ble_eq_true rfl, Nat.le_of_ble_eq_true rfl⟩ (Nat.le_of_ble_eq_true rfl) dX12_endsIt_48 rfl) rfl (fun x4 => ?_)
    refine T_if_ne (pc := 51) 56 dX12_endsIt_51 (by decide) (fun _ => ?_) (fun _ => ?_)
    · refine T_iinc (pc := 56) (y := 1) (lv' := [(0, .ref 10), (1, .int v1), (2, .int v2), (3, .int v3), (4, .int (v4 + (1 : Int32)))]) 4 dX12_endsIt_56 (by decide) rfl (Nat.le_of_ble_eq_true rfl) rfl ?_
      refine T_goto (pc := 59) 26 dX12_endsIt_59 (by decide) ?_
      exact hkb (v4 + (1 : Int32))
    · refine T_iconst (pc := 54) (v := 0) dX12_endsIt_54 (by decide) ?_
      exact T_zreturn (pc := 55) false rfl dX12_endsIt_55 rfl rfl
set_option maxRecDepth 100000 in
set_option maxHeartbeats 4000000 in
theorem fX12_endsIt_P26_T (v1 : Int32) (v2 : Int32) (v3 : Int32) (σ : St) (v4 : Int32) : T kX12_endsIt (cPz σ) σ 26 [(0, .ref 10), (1, .int v1), (2, .int v2), (3, .int v3), (4, .int v4)] [] (fX12_endsIt_P26 v1 v2 v3 σ v4) :=
  it_T (S := (fun _ : Int32 => σ)) (lv := fun t : Int32 => [(0, .ref 10), (1, .int v1), (2, .int v2), (3, .int v3), (4, .int t)]) (st := fun _ => []) (fun kb hkb t => fX12_endsIt_L26_T v1 v2 v3 (hkb := fun v4 => hkb v4) σ t) FU v4
set_option maxRecDepth 100000 in
set_option maxHeartbeats 4000000 in
theorem ctX12_endsIt (σ : St) (p0 : Int32) (p1 : Int32) : Ct yX12_endsIt kX12_endsIt [.ref 10, .int p0, .int p1] σ (cPz σ) (fX12_endsIt σ p0 p1) := by
  refine Ct.of (by decide +kernel) rfl rfl (Nat.le_of_ble_eq_true rfl) ?_
  unfold fX12_endsIt
  show T _ _ _ 0 [(0, .ref 10), (1, .int p0), (2, .int p1)] [] _
  refine T_aload_n (pc := 0) 0 dX12_endsIt_0 rfl rfl ?_
  refine T_getA (pc := 1) fd_10_22 hw1525 dX12_endsIt_1 ?_
  refine T_iload_n (pc := 4) 1 dX12_endsIt_4 rfl rfl ?_
  refine T_iald (pc := 5) rfl dX12_endsIt_5 (fun x1 => ?_)
  refine T_istore_n (pc := 6) (lv' := [(0, .ref 10), (1, .int p0), (2, .int p1), (3, .int x1)]) dX12_endsIt_6 rfl (Nat.le_of_ble_eq_true rfl) rfl ?_
  refine T_iload_n (pc := 7) 3 dX12_endsIt_7 rfl rfl ?_
  refine T_if_eq (pc := 8) 21 dX12_endsIt_8 (by decide) (fun _ => ?_) (fun _ => ?_)
  · refine T_iconst (pc := 21) (v := 0) dX12_endsIt_21 (by decide) ?_
    exact T_zreturn (pc := 22) false rfl dX12_endsIt_22 rfl rfl
  · refine T_iload_n (pc := 11) 3 dX12_endsIt_11 rfl rfl ?_
    refine T_aload_n (pc := 12) 0 dX12_endsIt_12 rfl rfl ?_
    refine T_getA (pc := 13) fd_10_23 hw1526 dX12_endsIt_13 ?_
    refine T_iload_n (pc := 16) 2 dX12_endsIt_16 rfl rfl ?_
    refine T_iald (pc := 17) rfl dX12_endsIt_17 (fun x2 => ?_)
    refine T_icmp_le (pc := 18) 23 dX12_endsIt_18 (by decide) (fun _ => ?_) (fun _ => ?_)
    · refine T_iconst (pc := 23) (v := 0) dX12_endsIt_23 (by decide) ?_
      refine T_istore (pc := 24) (lv' := [(0, .ref 10), (1, .int p0), (2, .int p1), (3, .int x1), (4, .int (0 : Int32))]) dX12_endsIt_24 (Nat.le_of_ble_eq_true rfl) rfl ?_
      exact fX12_endsIt_P26_T p0 p1 x1 σ (0 : Int32)
    · refine T_iconst (pc := 21) (v := 0) dX12_endsIt_21 (by decide) ?_
      exact T_zreturn (pc := 22) false rfl dX12_endsIt_22 rfl rfl
set_option maxRecDepth 100000 in
set_option maxHeartbeats 4000000 in
theorem ctX12_ends (σ : St) (p0 : Int32) (p1 : Int32) : Ct yX12_ends kX12_ends [.ref 10, .int p0, .int p1] σ cSi (fX12_ends σ p0 p1) := by
  refine Ct.of (by decide +kernel) rfl rfl (Nat.le_of_ble_eq_true rfl) ?_
  unfold fX12_ends
  show T _ _ _ 0 [(0, .ref 10), (1, .int p0), (2, .int p1)] [] _
  refine T_aload_n (pc := 0) 0 dX12_ends_0 rfl rfl ?_
  refine T_iconst (pc := 1) (v := 0) dX12_ends_1 (by decide) ?_
  refine T_putI (pc := 2) fd_10_0 hw1503 dX12_ends_2 ?_
  refine T_letS (fun s1 => ?_)
  refine T_aload_n (pc := 5) 0 dX12_ends_5 rfl rfl ?_
  refine T_iload_n (pc := 6) 1 dX12_ends_6 rfl rfl ?_
  refine T_callPz (pc := 7) (rest := []) (Rn_V (pc := 7) (as := [.int p0]) (rest := []) (ctX12_isSpeech s1 p0) rfl rfl mv_X12_isSpeech hw1849 rfl ⟨Nat.le_of_ble_eq_true rfl, Nat.le_of_ble_eq_true rfl⟩ (Nat.le_of_ble_eq_true rfl) dX12_ends_7 rfl) rfl (fun x2 => ?_)
  refine T_if_eq (pc := 10) 21 dX12_ends_10 (by decide) (fun _ => ?_) (fun _ => ?_)
  · refine T_iconst (pc := 21) (v := -1) dX12_ends_21 (by decide) ?_
    refine T_goto (pc := 22) 39 dX12_ends_22 (by decide) ?_
    exact T_ireturn (pc := 39) rfl dX12_ends_39 rfl
  · refine T_aload_n (pc := 13) 0 dX12_ends_13 rfl rfl ?_
    refine T_iload_n (pc := 14) 2 dX12_ends_14 rfl rfl ?_
    refine T_callPz (pc := 15) (rest := []) (Rn_V (pc := 15) (as := [.int p1]) (rest := []) (ctX12_isSpeech s1 p1) rfl rfl mv_X12_isSpeech hw1849 rfl ⟨Nat.le_of_ble_eq_true rfl, Nat.le_of_ble_eq_true rfl⟩ (Nat.le_of_ble_eq_true rfl) dX12_ends_15 rfl) rfl (fun x3 => ?_)
    refine T_if_ne (pc := 18) 25 dX12_ends_18 (by decide) (fun _ => ?_) (fun _ => ?_)
    · refine T_aload_n (pc := 25) 0 dX12_ends_25 rfl rfl ?_
      refine T_iload_n (pc := 26) 1 dX12_ends_26 rfl rfl ?_
      refine T_iload_n (pc := 27) 2 dX12_ends_27 rfl rfl ?_
      refine T_callPz (pc := 28) (rest := []) (Rn_V (pc := 28) (as := [.int p0, .int p1]) (rest := []) (ctX12_endsIt s1 p0 p1) rfl rfl mv_X12_endsIt hw1865 rfl ⟨Nat.le_of_ble_eq_true rfl, Nat.le_of_ble_eq_true rfl⟩ (Nat.le_of_ble_eq_true rfl) dX12_ends_28 rfl) rfl (fun x4 => ?_)
      refine T_if_eq (pc := 31) 38 dX12_ends_31 (by decide) (fun _ => ?_) (fun _ => ?_)
      · refine T_iconst (pc := 38) (v := 0) dX12_ends_38 (by decide) ?_
        exact T_ireturn (pc := 39) rfl dX12_ends_39 rfl
      · refine T_iconst (pc := 34) (v := 1) dX12_ends_34 (by decide) ?_
        refine T_goto (pc := 35) 39 dX12_ends_35 (by decide) ?_
        exact T_ireturn (pc := 39) rfl dX12_ends_39 rfl
    · refine T_iconst (pc := 21) (v := -1) dX12_ends_21 (by decide) ?_
      refine T_goto (pc := 22) 39 dX12_ends_22 (by decide) ?_
      exact T_ireturn (pc := 39) rfl dX12_ends_39 rfl
set_option maxRecDepth 100000 in
set_option maxHeartbeats 4000000 in
theorem fX12_layTexts_L30_T (v1 : Int32) (v2 : Int32) (v3 : Int32) (σ : St) {k1 : St → Option St} {kb : St → Int32 → Option St} (hk1 : ∀ (σ' : St), T kX12_layTexts cSv σ' 73 [(0, .ref 10), (1, .int v1), (2, .int v2), (3, .int v3)] [] (k1 σ')) (hkb : ∀ (σ' : St) (w4 : Int32), T kX12_layTexts cSv σ' 30 [(0, .ref 10), (1, .int v1), (2, .int v2), (3, .int v3), (4, .int w4)] [] (kb σ' w4)) (v4 : Int32) : T kX12_layTexts cSv σ 30 [(0, .ref 10), (1, .int v1), (2, .int v2), (3, .int v3), (4, .int v4)] [] (fX12_layTexts_L30 v1 v2 v3 k1 kb σ v4) := by
  unfold fX12_layTexts_L30
  refine T_iload (pc := 30) 4 dX12_layTexts_30 rfl ?_
  refine T_aload_n (pc := 32) 0 dX12_layTexts_32 rfl rfl ?_
  refine T_getA (pc := 33) fd_10_25 hw1528 dX12_layTexts_33 ?_
  refine T_iconst (pc := 36) (v := 2) dX12_layTexts_36 (by decide) ?_
  refine T_iload_n (pc := 37) 1 dX12_layTexts_37 rfl rfl ?_
  refine T_imul (pc := 38) dX12_layTexts_38 ?_
  refine T_iload_n (pc := 39) 3 dX12_layTexts_39 rfl rfl ?_
  refine T_iadd (pc := 40) dX12_layTexts_40 ?_
  refine T_iald (pc := 41) rfl dX12_layTexts_41 (fun x3 => ?_)
  refine T_icmp_ge (pc := 42) 73 dX12_layTexts_42 (by decide) (fun _ => ?_) (fun _ => ?_)
  · refine T_pick (lv' := [(0, .ref 10), (1, .int v1), (2, .int v2), (3, .int v3)]) [0, 1, 2, 3] rfl ?_
    exact hk1 σ
  · refine T_aload_n (pc := 45) 0 dX12_layTexts_45 rfl rfl ?_
    refine T_aload_n (pc := 46) 0 dX12_layTexts_46 rfl rfl ?_
    refine T_iload_n (pc := 47) 1 dX12_layTexts_47 rfl rfl ?_
    refine T_aload_n (pc := 48) 0 dX12_layTexts_48 rfl rfl ?_
    refine T_getA (pc := 49) fd_10_24 hw1527 dX12_layTexts_49 ?_
    refine T_iconst (pc := 52) (v := 2) dX12_layTexts_52 (by decide) ?_
    refine T_iload_n (pc := 53) 1 dX12_layTexts_53 rfl rfl ?_
    refine T_imul (pc := 54) dX12_layTexts_54 ?_
    refine T_iload_n (pc := 55) 3 dX12_layTexts_55 rfl rfl ?_
    refine T_iadd (pc := 56) dX12_layTexts_56 ?_
    refine T_iald (pc := 57) rfl dX12_layTexts_57 (fun x4 => ?_)
    refine T_iload (pc := 58) 4 dX12_layTexts_58 rfl ?_
    refine T_iadd (pc := 60) dX12_layTexts_60 ?_
    refine T_callPi (pc := 61) (rest := [.ref 10]) (Rn_V (pc := 61) (as := [.int v1, .int (x4 + v4)]) (rest := [.ref 10]) (ctX12_letter σ v1 (x4 + v4)) rfl rfl mv_X12_letter hw1873 rfl ⟨Nat.le_of_ble_eq_true rfl, Nat.le_of_ble_eq_true rfl⟩ (Nat.le_of_ble_eq_true rfl) dX12_layTexts_61 rfl) rfl (fun x5 => ?_)
    refine T_callSv (pc := 64) (rest := []) (Rn_V (pc := 64) (as := [.int x5]) (rest := []) (ctX12_addOne σ x5) rfl rfl mv_X12_addOne hw1889 rfl ⟨Nat.le_of_ble_eq_true rfl, Nat.le_of_ble_eq_true rfl⟩ (Nat.le_of_ble_eq_true rfl) dX12_layTexts_64 rfl) rfl (fun s6 => ?_)
    refine T_iinc (pc := 67) (y := 1) (lv' := [(0, .ref 10), (1, .int v1), (2, .int v2), (3, .int v3), (4, .int (v4 + (1 : Int32)))]) 4 dX12_layTexts_67 (by decide) rfl (Nat.le_of_ble_eq_true rfl) rfl ?_
    refine T_goto (pc := 70) 30 dX12_layTexts_70 (by decide) ?_
    exact hkb s6 (v4 + (1 : Int32))
set_option maxRecDepth 100000 in
set_option maxHeartbeats 4000000 in
theorem fX12_layTexts_P30_T (v1 : Int32) (v2 : Int32) (v3 : Int32) (σ : St) {k1 : St → Option St} (hk1 : ∀ (σ' : St), T kX12_layTexts cSv σ' 73 [(0, .ref 10), (1, .int v1), (2, .int v2), (3, .int v3)] [] (k1 σ')) (v4 : Int32) : T kX12_layTexts cSv σ 30 [(0, .ref 10), (1, .int v1), (2, .int v2), (3, .int v3), (4, .int v4)] [] (fX12_layTexts_P30 v1 v2 v3 k1 σ v4) :=
  it_T (S := (fun t : St × Int32 => t.1)) (lv := fun t : St × Int32 => [(0, .ref 10), (1, .int v1), (2, .int v2), (3, .int v3), (4, .int t.2)]) (st := fun _ => []) (fun kb hkb t => fX12_layTexts_L30_T v1 v2 v3 (hk1 := hk1) (hkb := fun σ v4 => hkb (σ, v4)) t.1 t.2) FU (σ, v4)
set_option maxRecDepth 100000 in
set_option maxHeartbeats 4000000 in
theorem fX12_layTexts_L7_T (v1 : Int32) (v2 : Int32) (σ : St) {k1 : St → Option St} {kb : St → Int32 → Option St} (hk1 : ∀ (σ' : St), T kX12_layTexts cSv σ' 79 [(0, .ref 10), (1, .int v1), (2, .int v2)] [] (k1 σ')) (hkb : ∀ (σ' : St) (w3 : Int32), T kX12_layTexts cSv σ' 7 [(0, .ref 10), (1, .int v1), (2, .int v2), (3, .int w3)] [] (kb σ' w3)) (v3 : Int32) : T kX12_layTexts cSv σ 7 [(0, .ref 10), (1, .int v1), (2, .int v2), (3, .int v3)] [] (fX12_layTexts_L7 v1 v2 k1 kb σ v3) := by
  unfold fX12_layTexts_L7
  refine T_iload_n (pc := 7) 3 dX12_layTexts_7 rfl rfl ?_
  refine T_aload_n (pc := 8) 0 dX12_layTexts_8 rfl rfl ?_
  refine T_getA (pc := 9) fd_10_22 hw1525 dX12_layTexts_9 ?_
  refine T_iload_n (pc := 12) 1 dX12_layTexts_12 rfl rfl ?_
  refine T_iald (pc := 13) rfl dX12_layTexts_13 (fun x2 => ?_)
  refine T_icmp_ge (pc := 14) 79 dX12_layTexts_14 (by decide) (fun _ => ?_) (fun _ => ?_)
  · refine T_pick (lv' := [(0, .ref 10), (1, .int v1), (2, .int v2)]) [0, 1, 2] rfl ?_
    exact hk1 σ
  · refine T_iload_n (pc := 17) 3 dX12_layTexts_17 rfl rfl ?_
    refine T_if_le (pc := 18) 27 dX12_layTexts_18 (by decide) (fun _ => ?_) (fun _ => ?_)
    · refine T_iconst (pc := 27) (v := 0) dX12_layTexts_27 (by decide) ?_
      refine T_istore (pc := 28) (lv' := [(0, .ref 10), (1, .int v1), (2, .int v2), (3, .int v3), (4, .int (0 : Int32))]) dX12_layTexts_28 (Nat.le_of_ble_eq_true rfl) rfl ?_
      refine fX12_layTexts_P30_T v1 v2 v3 (hk1 := fun s7 => ?_) σ (0 : Int32)
      · refine T_iinc (pc := 73) (y := 1) (lv' := [(0, .ref 10), (1, .int v1), (2, .int v2), (3, .int (v3 + (1 : Int32)))]) 3 dX12_layTexts_73 (by decide) rfl (Nat.le_of_ble_eq_true rfl) rfl ?_
        refine T_goto (pc := 76) 7 dX12_layTexts_76 (by decide) ?_
        exact hkb s7 (v3 + (1 : Int32))
    · refine T_aload_n (pc := 21) 0 dX12_layTexts_21 rfl rfl ?_
      refine T_bipush (pc := 22) (v := 32) dX12_layTexts_22 (by decide) ?_
      refine T_callSv (pc := 24) (rest := []) (Rn_V (pc := 24) (as := [.int (32 : Int32)]) (rest := []) (ctX12_addOne σ (32 : Int32)) rfl rfl mv_X12_addOne hw1889 rfl ⟨Nat.le_of_ble_eq_true rfl, Nat.le_of_ble_eq_true rfl⟩ (Nat.le_of_ble_eq_true rfl) dX12_layTexts_24 rfl) rfl (fun s8 => ?_)
      refine T_iconst (pc := 27) (v := 0) dX12_layTexts_27 (by decide) ?_
      refine T_istore (pc := 28) (lv' := [(0, .ref 10), (1, .int v1), (2, .int v2), (3, .int v3), (4, .int (0 : Int32))]) dX12_layTexts_28 (Nat.le_of_ble_eq_true rfl) rfl ?_
      refine fX12_layTexts_P30_T v1 v2 v3 (hk1 := fun s9 => ?_) s8 (0 : Int32)
      · refine T_iinc (pc := 73) (y := 1) (lv' := [(0, .ref 10), (1, .int v1), (2, .int v2), (3, .int (v3 + (1 : Int32)))]) 3 dX12_layTexts_73 (by decide) rfl (Nat.le_of_ble_eq_true rfl) rfl ?_
        refine T_goto (pc := 76) 7 dX12_layTexts_76 (by decide) ?_
        exact hkb s9 (v3 + (1 : Int32))
set_option maxRecDepth 100000 in
set_option maxHeartbeats 4000000 in
theorem fX12_layTexts_P7_T (v1 : Int32) (v2 : Int32) (σ : St) {k1 : St → Option St} (hk1 : ∀ (σ' : St), T kX12_layTexts cSv σ' 79 [(0, .ref 10), (1, .int v1), (2, .int v2)] [] (k1 σ')) (v3 : Int32) : T kX12_layTexts cSv σ 7 [(0, .ref 10), (1, .int v1), (2, .int v2), (3, .int v3)] [] (fX12_layTexts_P7 v1 v2 k1 σ v3) :=
  it_T (S := (fun t : St × Int32 => t.1)) (lv := fun t : St × Int32 => [(0, .ref 10), (1, .int v1), (2, .int v2), (3, .int t.2)]) (st := fun _ => []) (fun kb hkb t => fX12_layTexts_L7_T v1 v2 (hk1 := hk1) (hkb := fun σ v3 => hkb (σ, v3)) t.1 t.2) FU (σ, v3)
set_option maxRecDepth 100000 in
set_option maxHeartbeats 4000000 in
theorem fX12_layTexts_L131_T (v2 : Int32) (v3 : Int32) (v4 : Int32) (σ : St) {k1 : St → Option St} {kb : St → Int32 → Option St} (hk1 : ∀ (σ' : St), T kX12_layTexts cSv σ' 178 [(0, .ref 10), (2, .int v2), (3, .int v3), (4, .int v4)] [] (k1 σ')) (hkb : ∀ (σ' : St) (w5 : Int32), T kX12_layTexts cSv σ' 131 [(0, .ref 10), (2, .int v2), (3, .int v3), (4, .int v4), (5, .int w5)] [] (kb σ' w5)) (v5 : Int32) : T kX12_layTexts cSv σ 131 [(0, .ref 10), (2, .int v2), (3, .int v3), (4, .int v4), (5, .int v5)] [] (fX12_layTexts_L131 v2 v3 v4 k1 kb σ v5) := by
  unfold fX12_layTexts_L131
  refine T_iload (pc := 131) 4 dX12_layTexts_131 rfl ?_
  refine T_aload_n (pc := 133) 0 dX12_layTexts_133 rfl rfl ?_
  refine T_getA (pc := 134) fd_10_27 hw1530 dX12_layTexts_134 ?_
  refine T_bipush (pc := 137) (v := 12) dX12_layTexts_137 (by decide) ?_
  refine T_iload_n (pc := 139) 1 dX12_layTexts_139 rfl rfl ?_
  refine T_imul (pc := 140) dX12_layTexts_140 ?_
  refine T_iload (pc := 141) 3 dX12_layTexts_141 rfl ?_
  refine T_iadd (pc := 143) dX12_layTexts_143 ?_
  refine T_iald (pc := 144) rfl dX12_layTexts_144 (fun x16 => ?_)
  refine T_icmp_ge (pc := 145) 178 dX12_layTexts_145 (by decide) (fun _ => ?_) (fun _ => ?_)
  · refine T_pick (lv' := [(0, .ref 10), (2, .int v2), (3, .int v3), (4, .int v4)]) [0, 1, 2, 3] rfl ?_
    exact hk1 σ
  · refine T_aload_n (pc := 148) 0 dX12_layTexts_148 rfl rfl ?_
    refine T_aload_n (pc := 149) 0 dX12_layTexts_149 rfl rfl ?_
    refine T_iload_n (pc := 150) 1 dX12_layTexts_150 rfl rfl ?_
    refine T_aload_n (pc := 151) 0 dX12_layTexts_151 rfl rfl ?_
    refine T_getA (pc := 152) fd_10_26 hw1529 dX12_layTexts_152 ?_
    refine T_bipush (pc := 155) (v := 12) dX12_layTexts_155 (by decide) ?_
    refine T_iload_n (pc := 157) 1 dX12_layTexts_157 rfl rfl ?_
    refine T_imul (pc := 158) dX12_layTexts_158 ?_
    refine T_iload (pc := 159) 3 dX12_layTexts_159 rfl ?_
    refine T_iadd (pc := 161) dX12_layTexts_161 ?_
    refine T_iald (pc := 162) rfl dX12_layTexts_162 (fun x17 => ?_)
    refine T_iload (pc := 163) 4 dX12_layTexts_163 rfl ?_
    refine T_iadd (pc := 165) dX12_layTexts_165 ?_
    refine T_callPi (pc := 166) (rest := [.ref 10]) (Rn_V (pc := 166) (as := [.int v2, .int (x17 + v5)]) (rest := [.ref 10]) (ctX12_letter σ v2 (x17 + v5)) rfl rfl mv_X12_letter hw1873 rfl ⟨Nat.le_of_ble_eq_true rfl, Nat.le_of_ble_eq_true rfl⟩ (Nat.le_of_ble_eq_true rfl) dX12_layTexts_166 rfl) rfl (fun x18 => ?_)
    refine T_callSv (pc := 169) (rest := []) (Rn_V (pc := 169) (as := [.int x18]) (rest := []) (ctX12_addOther σ x18) rfl rfl mv_X12_addOther hw1894 rfl ⟨Nat.le_of_ble_eq_true rfl, Nat.le_of_ble_eq_true rfl⟩ (Nat.le_of_ble_eq_true rfl) dX12_layTexts_169 rfl) rfl (fun s19 => ?_)
    refine T_iinc (pc := 172) (y := 1) (lv' := [(0, .ref 10), (2, .int v2), (3, .int v3), (4, .int v4), (5, .int (v5 + (1 : Int32)))]) 4 dX12_layTexts_172 (by decide) rfl (Nat.le_of_ble_eq_true rfl) rfl ?_
    refine T_goto (pc := 175) 131 dX12_layTexts_175 (by decide) ?_
    exact hkb s19 (v5 + (1 : Int32))
set_option maxRecDepth 100000 in
set_option maxHeartbeats 4000000 in
theorem fX12_layTexts_P131_T (v2 : Int32) (v3 : Int32) (v4 : Int32) (σ : St) {k1 : St → Option St} (hk1 : ∀ (σ' : St), T kX12_layTexts cSv σ' 178 [(0, .ref 10), (2, .int v2), (3, .int v3), (4, .int v4)] [] (k1 σ')) (v5 : Int32) : T kX12_layTexts cSv σ 131 [(0, .ref 10), (2, .int v2), (3, .int v3), (4, .int v4), (5, .int v5)] [] (fX12_layTexts_P131 v2 v3 v4 k1 σ v5) :=
  it_T (S := (fun t : St × Int32 => t.1)) (lv := fun t : St × Int32 => [(0, .ref 10), (2, .int v2), (3, .int v3), (4, .int v4), (5, .int t.2)]) (st := fun _ => []) (fun kb hkb t => fX12_layTexts_L131_T v2 v3 v4 (hk1 := hk1) (hkb := fun σ v5 => hkb (σ, v5)) t.1 t.2) FU (σ, v5)
set_option maxRecDepth 100000 in
set_option maxHeartbeats 4000000 in
theorem fX12_layTexts_L105_T (v2 : Int32) (v3 : Int32) (σ : St) {kb : St → Int32 → Option St} (hkb : ∀ (σ' : St) (w4 : Int32), T kX12_layTexts cSv σ' 105 [(0, .ref 10), (2, .int v2), (3, .int v3), (4, .int w4)] [] (kb σ' w4)) (v4 : Int32) : T kX12_layTexts cSv σ 105 [(0, .ref 10), (2, .int v2), (3, .int v3), (4, .int v4)] [] (fX12_layTexts_L105 v2 v3 kb σ v4) := by
  unfold fX12_layTexts_L105
  refine T_iload (pc := 105) 3 dX12_layTexts_105 rfl ?_
  refine T_aload_n (pc := 107) 0 dX12_layTexts_107 rfl rfl ?_
  refine T_getA (pc := 108) fd_10_23 hw1526 dX12_layTexts_108 ?_
  refine T_iload_n (pc := 111) 1 dX12_layTexts_111 rfl rfl ?_
  refine T_iald (pc := 112) rfl dX12_layTexts_112 (fun x15 => ?_)
  refine T_icmp_ge (pc := 113) 184 dX12_layTexts_113 (by decide) (fun _ => ?_) (fun _ => ?_)
  · exact T_return (pc := 184) rfl dX12_layTexts_184 rfl
  · refine T_iload (pc := 116) 3 dX12_layTexts_116 rfl ?_
    refine T_iload_n (pc := 118) 2 dX12_layTexts_118 rfl rfl ?_
    refine T_icmp_le (pc := 119) 128 dX12_layTexts_119 (by decide) (fun _ => ?_) (fun _ => ?_)
    · refine T_iconst (pc := 128) (v := 0) dX12_layTexts_128 (by decide) ?_
      refine T_istore (pc := 129) (lv' := [(0, .ref 10), (2, .int v2), (3, .int v3), (4, .int v4), (5, .int (0 : Int32))]) dX12_layTexts_129 (Nat.le_of_ble_eq_true rfl) rfl ?_
      refine fX12_layTexts_P131_T v2 v3 v4 (hk1 := fun s20 => ?_) σ (0 : Int32)
      · refine T_iinc (pc := 178) (y := 1) (lv' := [(0, .ref 10), (2, .int v2), (3, .int v3), (4, .int (v4 + (1 : Int32)))]) 3 dX12_layTexts_178 (by decide) rfl (Nat.le_of_ble_eq_true rfl) rfl ?_
        refine T_goto (pc := 181) 105 dX12_layTexts_181 (by decide) ?_
        exact hkb s20 (v4 + (1 : Int32))
    · refine T_aload_n (pc := 122) 0 dX12_layTexts_122 rfl rfl ?_
      refine T_bipush (pc := 123) (v := 32) dX12_layTexts_123 (by decide) ?_
      refine T_callSv (pc := 125) (rest := []) (Rn_V (pc := 125) (as := [.int (32 : Int32)]) (rest := []) (ctX12_addOther σ (32 : Int32)) rfl rfl mv_X12_addOther hw1894 rfl ⟨Nat.le_of_ble_eq_true rfl, Nat.le_of_ble_eq_true rfl⟩ (Nat.le_of_ble_eq_true rfl) dX12_layTexts_125 rfl) rfl (fun s21 => ?_)
      refine T_iconst (pc := 128) (v := 0) dX12_layTexts_128 (by decide) ?_
      refine T_istore (pc := 129) (lv' := [(0, .ref 10), (2, .int v2), (3, .int v3), (4, .int v4), (5, .int (0 : Int32))]) dX12_layTexts_129 (Nat.le_of_ble_eq_true rfl) rfl ?_
      refine fX12_layTexts_P131_T v2 v3 v4 (hk1 := fun s22 => ?_) s21 (0 : Int32)
      · refine T_iinc (pc := 178) (y := 1) (lv' := [(0, .ref 10), (2, .int v2), (3, .int v3), (4, .int (v4 + (1 : Int32)))]) 3 dX12_layTexts_178 (by decide) rfl (Nat.le_of_ble_eq_true rfl) rfl ?_
        refine T_goto (pc := 181) 105 dX12_layTexts_181 (by decide) ?_
        exact hkb s22 (v4 + (1 : Int32))
set_option maxRecDepth 100000 in
set_option maxHeartbeats 4000000 in
theorem fX12_layTexts_P105_T (v2 : Int32) (v3 : Int32) (σ : St) (v4 : Int32) : T kX12_layTexts cSv σ 105 [(0, .ref 10), (2, .int v2), (3, .int v3), (4, .int v4)] [] (fX12_layTexts_P105 v2 v3 σ v4) :=
  it_T (S := (fun t : St × Int32 => t.1)) (lv := fun t : St × Int32 => [(0, .ref 10), (2, .int v2), (3, .int v3), (4, .int t.2)]) (st := fun _ => []) (fun kb hkb t => fX12_layTexts_L105_T v2 v3 (hkb := fun σ v4 => hkb (σ, v4)) t.1 t.2) FU (σ, v4)
set_option maxRecDepth 100000 in
set_option maxHeartbeats 4000000 in
theorem ctX12_layTexts (σ : St) (p0 : Int32) (p1 : Int32) : Ct yX12_layTexts kX12_layTexts [.ref 10, .int p0, .int p1] σ cSv (fX12_layTexts σ p0 p1) := by
  refine Ct.of (by decide +kernel) rfl rfl (Nat.le_of_ble_eq_true rfl) ?_
  unfold fX12_layTexts
  show T _ _ _ 0 [(0, .ref 10), (1, .int p0), (2, .int p1)] [] _
  refine T_aload_n (pc := 0) 0 dX12_layTexts_0 rfl rfl ?_
  refine T_iconst (pc := 1) (v := 0) dX12_layTexts_1 (by decide) ?_
  refine T_putI (pc := 2) fd_10_34 hw1537 dX12_layTexts_2 ?_
  refine T_letS (fun s1 => ?_)
  refine T_iconst (pc := 5) (v := 0) dX12_layTexts_5 (by decide) ?_
  refine T_istore_n (pc := 6) (lv' := [(0, .ref 10), (1, .int p0), (2, .int p1), (3, .int (0 : Int32))]) dX12_layTexts_6 rfl (Nat.le_of_ble_eq_true rfl) rfl ?_
  refine fX12_layTexts_P7_T p0 p1 (hk1 := fun s10 => ?_) s1 (0 : Int32)
  · refine T_aload_n (pc := 79) 0 dX12_layTexts_79 rfl rfl ?_
    refine T_iconst (pc := 80) (v := 0) dX12_layTexts_80 (by decide) ?_
    refine T_putI (pc := 81) fd_10_35 hw1538 dX12_layTexts_81 ?_
    refine T_letS (fun s11 => ?_)
    refine T_iconst (pc := 84) (v := 0) dX12_layTexts_84 (by decide) ?_
    refine T_aload_n (pc := 85) 0 dX12_layTexts_85 rfl rfl ?_
    refine T_getA (pc := 86) fd_10_23 hw1526 dX12_layTexts_86 ?_
    refine T_iload_n (pc := 89) 2 dX12_layTexts_89 rfl rfl ?_
    refine T_iald (pc := 90) rfl dX12_layTexts_90 (fun x12 => ?_)
    refine T_aload_n (pc := 91) 0 dX12_layTexts_91 rfl rfl ?_
    refine T_getA (pc := 92) fd_10_22 hw1525 dX12_layTexts_92 ?_
    refine T_iload_n (pc := 95) 1 dX12_layTexts_95 rfl rfl ?_
    refine T_iald (pc := 96) rfl dX12_layTexts_96 (fun x13 => ?_)
    refine T_isub (pc := 97) dX12_layTexts_97 ?_
    refine T_callPi (pc := 98) (rest := []) (Rn_S (pc := 98) (as := [.int (0 : Int32), .int (x12 - x13)]) (rest := []) (ctJ9_max_7cf53 s11 (0 : Int32) (x12 - x13)) ms_J9_max_7cf53 hw1893 rfl ⟨Nat.le_of_ble_eq_true rfl, Nat.le_of_ble_eq_true rfl⟩ (Nat.le_of_ble_eq_true rfl) dX12_layTexts_98 rfl) rfl (fun x14 => ?_)
    refine T_istore_n (pc := 101) (lv' := [(0, .ref 10), (1, .int p0), (2, .int p1), (3, .int x14)]) dX12_layTexts_101 rfl (Nat.le_of_ble_eq_true rfl) rfl ?_
    refine T_iload_n (pc := 102) 3 dX12_layTexts_102 rfl rfl ?_
    refine T_istore (pc := 103) (lv' := [(0, .ref 10), (1, .int p0), (2, .int p1), (3, .int x14), (4, .int x14)]) dX12_layTexts_103 (Nat.le_of_ble_eq_true rfl) rfl ?_
    refine T_pick (lv' := [(0, .ref 10), (2, .int p1), (3, .int x14), (4, .int x14)]) [0, 2, 3, 4] rfl ?_
    exact fX12_layTexts_P105_T p1 x14 s11 x14
set_option maxRecDepth 100000 in
set_option maxHeartbeats 4000000 in
theorem fX12_farOf_J38_T (σ : St) (v3 : Int32) (v4 : Int32) (t0 : Int32) {kb : St → Int32 → Option (Int32 × St)} (hkb : ∀ (σ' : St) (w4 : Int32), T kX12_farOf cSi σ' 19 [(0, .ref 10), (3, .int v3), (4, .int w4)] [] (kb σ' w4)) : T kX12_farOf cSi σ 38 [(0, .ref 10), (3, .int v3), (4, .int v4)] [.int t0] (fX12_farOf_J38 kb σ v3 v4 t0) := by
  unfold fX12_farOf_J38
  refine T_istore (pc := 38) (lv' := [(0, .ref 10), (3, .int v3), (4, .int v4), (5, .int t0)]) dX12_farOf_38 (Nat.le_of_ble_eq_true rfl) rfl ?_
  refine T_iload_n (pc := 40) 1 dX12_farOf_40 rfl rfl ?_
  refine T_if_le (pc := 41) 133 dX12_farOf_41 (by decide) (fun _ => ?_) (fun _ => ?_)
  · refine T_aload_n (pc := 133) 0 dX12_farOf_133 rfl rfl ?_
    refine T_getA (pc := 134) fd_10_33 hw1536 dX12_farOf_134 ?_
    refine T_bipush (pc := 137) (v := 21) dX12_farOf_137 (by decide) ?_
    refine T_iload_n (pc := 139) 1 dX12_farOf_139 rfl rfl ?_
    refine T_imul (pc := 140) dX12_farOf_140 ?_
    refine T_iload (pc := 141) 2 dX12_farOf_141 rfl ?_
    refine T_iadd (pc := 143) dX12_farOf_143 ?_
    refine T_iload (pc := 144) 3 dX12_farOf_144 rfl ?_
    refine T_iast (pc := 146) rfl dX12_farOf_146 ?_
    refine T_letS (fun s2 => ?_)
    refine T_iinc (pc := 147) (y := 1) (lv' := [(0, .ref 10), (3, .int v3), (4, .int (v4 + (1 : Int32))), (5, .int t0)]) 2 dX12_farOf_147 (by decide) rfl (Nat.le_of_ble_eq_true rfl) rfl ?_
    refine T_goto (pc := 150) 19 dX12_farOf_150 (by decide) ?_
    refine T_pick (lv' := [(0, .ref 10), (3, .int v3), (4, .int (v4 + (1 : Int32)))]) [0, 1, 2] rfl ?_
    exact hkb s2 (v4 + (1 : Int32))
  · refine T_iload (pc := 44) 2 dX12_farOf_44 rfl ?_
    refine T_if_le (pc := 46) 133 dX12_farOf_46 (by decide) (fun _ => ?_) (fun _ => ?_)
    · refine T_aload_n (pc := 133) 0 dX12_farOf_133 rfl rfl ?_
      refine T_getA (pc := 134) fd_10_33 hw1536 dX12_farOf_134 ?_
      refine T_bipush (pc := 137) (v := 21) dX12_farOf_137 (by decide) ?_
      refine T_iload_n (pc := 139) 1 dX12_farOf_139 rfl rfl ?_
      refine T_imul (pc := 140) dX12_farOf_140 ?_
      refine T_iload (pc := 141) 2 dX12_farOf_141 rfl ?_
      refine T_iadd (pc := 143) dX12_farOf_143 ?_
      refine T_iload (pc := 144) 3 dX12_farOf_144 rfl ?_
      refine T_iast (pc := 146) rfl dX12_farOf_146 ?_
      refine T_letS (fun s3 => ?_)
      refine T_iinc (pc := 147) (y := 1) (lv' := [(0, .ref 10), (3, .int v3), (4, .int (v4 + (1 : Int32))), (5, .int t0)]) 2 dX12_farOf_147 (by decide) rfl (Nat.le_of_ble_eq_true rfl) rfl ?_
      refine T_goto (pc := 150) 19 dX12_farOf_150 (by decide) ?_
      refine T_pick (lv' := [(0, .ref 10), (3, .int v3), (4, .int (v4 + (1 : Int32)))]) [0, 1, 2] rfl ?_
      exact hkb s3 (v4 + (1 : Int32))
    · refine T_aload_n (pc := 49) 0 dX12_farOf_49 rfl rfl ?_
      refine T_getA (pc := 50) fd_10_33 hw1536 dX12_farOf_50 ?_
      refine T_bipush (pc := 53) (v := 21) dX12_farOf_53 (by decide) ?_
      refine T_iload_n (pc := 55) 1 dX12_farOf_55 rfl rfl ?_
      refine T_iconst (pc := 56) (v := 1) dX12_farOf_56 (by decide) ?_
      refine T_isub (pc := 57) dX12_farOf_57 ?_
      refine T_imul (pc := 58) dX12_farOf_58 ?_
      refine T_iload (pc := 59) 2 dX12_farOf_59 rfl ?_
      refine T_iadd (pc := 61) dX12_farOf_61 ?_
      refine T_iconst (pc := 62) (v := 1) dX12_farOf_62 (by decide) ?_
      refine T_isub (pc := 63) dX12_farOf_63 ?_
      refine T_iald (pc := 64) rfl dX12_farOf_64 (fun x4 => ?_)
      refine T_aload_n (pc := 65) 0 dX12_farOf_65 rfl rfl ?_
      refine T_getA (pc := 66) fd_10_31 hw1534 dX12_farOf_66 ?_
      refine T_iload_n (pc := 69) 1 dX12_farOf_69 rfl rfl ?_
      refine T_iconst (pc := 70) (v := 1) dX12_farOf_70 (by decide) ?_
      refine T_isub (pc := 71) dX12_farOf_71 ?_
      refine T_iald (pc := 72) rfl dX12_farOf_72 (fun x5 => ?_)
      refine T_aload_n (pc := 73) 0 dX12_farOf_73 rfl rfl ?_
      refine T_getA (pc := 74) fd_10_32 hw1535 dX12_farOf_74 ?_
      refine T_iload (pc := 77) 2 dX12_farOf_77 rfl ?_
      refine T_iconst (pc := 79) (v := 1) dX12_farOf_79 (by decide) ?_
      refine T_isub (pc := 80) dX12_farOf_80 ?_
      refine T_iald (pc := 81) rfl dX12_farOf_81 (fun x6 => ?_)
      refine T_icmp_ne (pc := 82) 89 dX12_farOf_82 (by decide) (fun _ => ?_) (fun _ => ?_)
      · refine T_iconst (pc := 89) (v := 1) dX12_farOf_89 (by decide) ?_
        refine T_iadd (pc := 90) dX12_farOf_90 ?_
        refine T_letI (fun x7 => ?_)
        refine T_istore (pc := 91) (lv' := [(0, .ref 10), (3, .int v3), (4, .int v4), (5, .int x7)]) dX12_farOf_91 (Nat.le_of_ble_eq_true rfl) rfl ?_
        refine T_iload (pc := 93) 3 dX12_farOf_93 rfl ?_
        refine T_iconst (pc := 95) (v := 1) dX12_farOf_95 (by decide) ?_
        refine T_aload_n (pc := 96) 0 dX12_farOf_96 rfl rfl ?_
        refine T_getA (pc := 97) fd_10_33 hw1536 dX12_farOf_97 ?_
        refine T_bipush (pc := 100) (v := 21) dX12_farOf_100 (by decide) ?_
        refine T_iload_n (pc := 102) 1 dX12_farOf_102 rfl rfl ?_
        refine T_iconst (pc := 103) (v := 1) dX12_farOf_103 (by decide) ?_
        refine T_isub (pc := 104) dX12_farOf_104 ?_
        refine T_imul (pc := 105) dX12_farOf_105 ?_
        refine T_iload (pc := 106) 2 dX12_farOf_106 rfl ?_
        refine T_iadd (pc := 108) dX12_farOf_108 ?_
        refine T_iald (pc := 109) rfl dX12_farOf_109 (fun x8 => ?_)
        refine T_aload_n (pc := 110) 0 dX12_farOf_110 rfl rfl ?_
        refine T_getA (pc := 111) fd_10_33 hw1536 dX12_farOf_111 ?_
        refine T_bipush (pc := 114) (v := 21) dX12_farOf_114 (by decide) ?_
        refine T_iload_n (pc := 116) 1 dX12_farOf_116 rfl rfl ?_
        refine T_imul (pc := 117) dX12_farOf_117 ?_
        refine T_iload (pc := 118) 2 dX12_farOf_118 rfl ?_
        refine T_iadd (pc := 120) dX12_farOf_120 ?_
        refine T_iconst (pc := 121) (v := 1) dX12_farOf_121 (by decide) ?_
        refine T_isub (pc := 122) dX12_farOf_122 ?_
        refine T_iald (pc := 123) rfl dX12_farOf_123 (fun x9 => ?_)
        refine T_callPi (pc := 124) (rest := [.int (1 : Int32), .int x7]) (Rn_S (pc := 124) (as := [.int x8, .int x9]) (rest := [.int (1 : Int32), .int x7]) (ctJ9_min_7cf53 σ x8 x9) ms_J9_min_7cf53 hw1898 rfl ⟨Nat.le_of_ble_eq_true rfl, Nat.le_of_ble_eq_true rfl⟩ (Nat.le_of_ble_eq_true rfl) dX12_farOf_124 rfl) rfl (fun x10 => ?_)
        refine T_iadd (pc := 127) dX12_farOf_127 ?_
        refine T_callPi (pc := 128) (rest := []) (Rn_S (pc := 128) (as := [.int x7, .int ((1 : Int32) + x10)]) (rest := []) (ctJ9_min_7cf53 σ x7 ((1 : Int32) + x10)) ms_J9_min_7cf53 hw1898 rfl ⟨Nat.le_of_ble_eq_true rfl, Nat.le_of_ble_eq_true rfl⟩ (Nat.le_of_ble_eq_true rfl) dX12_farOf_128 rfl) rfl (fun x11 => ?_)
        refine T_istore (pc := 131) (lv' := [(0, .ref 10), (3, .int v3), (4, .int v4), (5, .int x11)]) dX12_farOf_131 (Nat.le_of_ble_eq_true rfl) rfl ?_
        refine T_aload_n (pc := 133) 0 dX12_farOf_133 rfl rfl ?_
        refine T_getA (pc := 134) fd_10_33 hw1536 dX12_farOf_134 ?_
        refine T_bipush (pc := 137) (v := 21) dX12_farOf_137 (by decide) ?_
        refine T_iload_n (pc := 139) 1 dX12_farOf_139 rfl rfl ?_
        refine T_imul (pc := 140) dX12_farOf_140 ?_
        refine T_iload (pc := 141) 2 dX12_farOf_141 rfl ?_
        refine T_iadd (pc := 143) dX12_farOf_143 ?_
        refine T_iload (pc := 144) 3 dX12_farOf_144 rfl ?_
        refine T_iast (pc := 146) rfl dX12_farOf_146 ?_
        refine T_letS (fun s12 => ?_)
        refine T_iinc (pc := 147) (y := 1) (lv' := [(0, .ref 10), (3, .int v3), (4, .int (v4 + (1 : Int32))), (5, .int x11)]) 2 dX12_farOf_147 (by decide) rfl (Nat.le_of_ble_eq_true rfl) rfl ?_
        refine T_goto (pc := 150) 19 dX12_farOf_150 (by decide) ?_
        refine T_pick (lv' := [(0, .ref 10), (3, .int v3), (4, .int (v4 + (1 : Int32)))]) [0, 1, 2] rfl ?_
        exact hkb s12 (v4 + (1 : Int32))
      · refine T_iconst (pc := 85) (v := 0) dX12_farOf_85 (by decide) ?_
        refine T_goto (pc := 86) 90 dX12_farOf_86 (by decide) ?_
        refine T_iadd (pc := 90) dX12_farOf_90 ?_
        refine T_letI (fun x13 => ?_)
        refine T_istore (pc := 91) (lv' := [(0, .ref 10), (3, .int v3), (4, .int v4), (5, .int x13)]) dX12_farOf_91 (Nat.le_of_ble_eq_true rfl) rfl ?_
        refine T_iload (pc := 93) 3 dX12_farOf_93 rfl ?_
        refine T_iconst (pc := 95) (v := 1) dX12_farOf_95 (by decide) ?_
        refine T_aload_n (pc := 96) 0 dX12_farOf_96 rfl rfl ?_
        refine T_getA (pc := 97) fd_10_33 hw1536 dX12_farOf_97 ?_
        refine T_bipush (pc := 100) (v := 21) dX12_farOf_100 (by decide) ?_
        refine T_iload_n (pc := 102) 1 dX12_farOf_102 rfl rfl ?_
        refine T_iconst (pc := 103) (v := 1) dX12_farOf_103 (by decide) ?_
        refine T_isub (pc := 104) dX12_farOf_104 ?_
        refine T_imul (pc := 105) dX12_farOf_105 ?_
        refine T_iload (pc := 106) 2 dX12_farOf_106 rfl ?_
        refine T_iadd (pc := 108) dX12_farOf_108 ?_
        refine T_iald (pc := 109) rfl dX12_farOf_109 (fun x14 => ?_)
        refine T_aload_n (pc := 110) 0 dX12_farOf_110 rfl rfl ?_
        refine T_getA (pc := 111) fd_10_33 hw1536 dX12_farOf_111 ?_
        refine T_bipush (pc := 114) (v := 21) dX12_farOf_114 (by decide) ?_
        refine T_iload_n (pc := 116) 1 dX12_farOf_116 rfl rfl ?_
        refine T_imul (pc := 117) dX12_farOf_117 ?_
        refine T_iload (pc := 118) 2 dX12_farOf_118 rfl ?_
        refine T_iadd (pc := 120) dX12_farOf_120 ?_
        refine T_iconst (pc := 121) (v := 1) dX12_farOf_121 (by decide) ?_
        refine T_isub (pc := 122) dX12_farOf_122 ?_
        refine T_iald (pc := 123) rfl dX12_farOf_123 (fun x15 => ?_)
        refine T_callPi (pc := 124) (rest := [.int (1 : Int32), .int x13]) (Rn_S (pc := 124) (as := [.int x14, .int x15]) (rest := [.int (1 : Int32), .int x13]) (ctJ9_min_7cf53 σ x14 x15) ms_J9_min_7cf53 hw1898 rfl ⟨Nat.le_of_ble_eq_true rfl, Nat.le_of_ble_eq_true rfl⟩ (Nat.le_of_ble_eq_true rfl) dX12_farOf_124 rfl) rfl (fun x16 => ?_)
        refine T_iadd (pc := 127) dX12_farOf_127 ?_
        refine T_callPi (pc := 128) (rest := []) (Rn_S (pc := 128) (as := [.int x13, .int ((1 : Int32) + x16)]) (rest := []) (ctJ9_min_7cf53 σ x13 ((1 : Int32) + x16)) ms_J9_min_7cf53 hw1898 rfl ⟨Nat.le_of_ble_eq_true rfl, Nat.le_of_ble_eq_true rfl⟩ (Nat.le_of_ble_eq_true rfl) dX12_farOf_128 rfl) rfl (fun x17 => ?_)
        refine T_istore (pc := 131) (lv' := [(0, .ref 10), (3, .int v3), (4, .int v4), (5, .int x17)]) dX12_farOf_131 (Nat.le_of_ble_eq_true rfl) rfl ?_
        refine T_aload_n (pc := 133) 0 dX12_farOf_133 rfl rfl ?_
        refine T_getA (pc := 134) fd_10_33 hw1536 dX12_farOf_134 ?_
        refine T_bipush (pc := 137) (v := 21) dX12_farOf_137 (by decide) ?_
        refine T_iload_n (pc := 139) 1 dX12_farOf_139 rfl rfl ?_
        refine T_imul (pc := 140) dX12_farOf_140 ?_
        refine T_iload (pc := 141) 2 dX12_farOf_141 rfl ?_
        refine T_iadd (pc := 143) dX12_farOf_143 ?_
        refine T_iload (pc := 144) 3 dX12_farOf_144 rfl ?_
        refine T_iast (pc := 146) rfl dX12_farOf_146 ?_
        refine T_letS (fun s18 => ?_)
        refine T_iinc (pc := 147) (y := 1) (lv' := [(0, .ref 10), (3, .int v3), (4, .int (v4 + (1 : Int32))), (5, .int x17)]) 2 dX12_farOf_147 (by decide) rfl (Nat.le_of_ble_eq_true rfl) rfl ?_
        refine T_goto (pc := 150) 19 dX12_farOf_150 (by decide) ?_
        refine T_pick (lv' := [(0, .ref 10), (3, .int v3), (4, .int (v4 + (1 : Int32)))]) [0, 1, 2] rfl ?_
        exact hkb s18 (v4 + (1 : Int32))
set_option maxRecDepth 100000 in
set_option maxHeartbeats 4000000 in
theorem fX12_farOf_L19_T (v3 : Int32) (σ : St) {k1 : St → Option (Int32 × St)} {kb : St → Int32 → Option (Int32 × St)} (hk1 : ∀ (σ' : St), T kX12_farOf cSi σ' 153 [(0, .ref 10), (3, .int v3)] [] (k1 σ')) (hkb : ∀ (σ' : St) (w4 : Int32), T kX12_farOf cSi σ' 19 [(0, .ref 10), (3, .int v3), (4, .int w4)] [] (kb σ' w4)) (v4 : Int32) : T kX12_farOf cSi σ 19 [(0, .ref 10), (3, .int v3), (4, .int v4)] [] (fX12_farOf_L19 v3 k1 kb σ v4) := by
  unfold fX12_farOf_L19
  refine T_iload (pc := 19) 2 dX12_farOf_19 rfl ?_
  refine T_aload_n (pc := 21) 0 dX12_farOf_21 rfl rfl ?_
  refine T_getI (pc := 22) fd_10_35 hw1538 dX12_farOf_22 ?_
  refine T_icmp_gt (pc := 25) 153 dX12_farOf_25 (by decide) (fun _ => ?_) (fun _ => ?_)
  · refine T_pick (lv' := [(0, .ref 10), (3, .int v3)]) [0, 1] rfl ?_
    exact hk1 σ
  · refine T_iload_n (pc := 28) 1 dX12_farOf_28 rfl rfl ?_
    refine T_if_ne (pc := 29) 37 dX12_farOf_29 (by decide) (fun _ => ?_) (fun _ => ?_)
    · refine T_iload_n (pc := 37) 1 dX12_farOf_37 rfl rfl ?_
      exact fX12_farOf_J38_T (hkb := hkb) σ v3 v4 v3
    · refine T_iload (pc := 32) 2 dX12_farOf_32 rfl ?_
      refine T_goto (pc := 34) 38 dX12_farOf_34 (by decide) ?_
      exact fX12_farOf_J38_T (hkb := hkb) σ v3 v4 v4
set_option maxRecDepth 100000 in
set_option maxHeartbeats 4000000 in
theorem fX12_farOf_P19_T (v3 : Int32) (σ : St) {k1 : St → Option (Int32 × St)} (hk1 : ∀ (σ' : St), T kX12_farOf cSi σ' 153 [(0, .ref 10), (3, .int v3)] [] (k1 σ')) (v4 : Int32) : T kX12_farOf cSi σ 19 [(0, .ref 10), (3, .int v3), (4, .int v4)] [] (fX12_farOf_P19 v3 k1 σ v4) :=
  it_T (S := (fun t : St × Int32 => t.1)) (lv := fun t : St × Int32 => [(0, .ref 10), (3, .int v3), (4, .int t.2)]) (st := fun _ => []) (fun kb hkb t => fX12_farOf_L19_T v3 (hk1 := hk1) (hkb := fun σ v4 => hkb (σ, v4)) t.1 t.2) FU (σ, v4)
set_option maxRecDepth 100000 in
set_option maxHeartbeats 4000000 in
theorem fX12_farOf_L8_T (σ : St) {k1 : St → Option (Int32 × St)} {kb : St → Int32 → Option (Int32 × St)} (hk1 : ∀ (σ' : St), T kX12_farOf cSi σ' 159 [(0, .ref 10)] [] (k1 σ')) (hkb : ∀ (σ' : St) (w3 : Int32), T kX12_farOf cSi σ' 8 [(0, .ref 10), (3, .int w3)] [] (kb σ' w3)) (v3 : Int32) : T kX12_farOf cSi σ 8 [(0, .ref 10), (3, .int v3)] [] (fX12_farOf_L8 k1 kb σ v3) := by
  unfold fX12_farOf_L8
  refine T_iload_n (pc := 8) 1 dX12_farOf_8 rfl rfl ?_
  refine T_aload_n (pc := 9) 0 dX12_farOf_9 rfl rfl ?_
  refine T_getI (pc := 10) fd_10_34 hw1537 dX12_farOf_10 ?_
  refine T_icmp_gt (pc := 13) 159 dX12_farOf_13 (by decide) (fun _ => ?_) (fun _ => ?_)
  · refine T_pick (lv' := [(0, .ref 10)]) [0] rfl ?_
    exact hk1 σ
  · refine T_iconst (pc := 16) (v := 0) dX12_farOf_16 (by decide) ?_
    refine T_istore (pc := 17) (lv' := [(0, .ref 10), (3, .int v3), (4, .int (0 : Int32))]) dX12_farOf_17 (Nat.le_of_ble_eq_true rfl) rfl ?_
    refine fX12_farOf_P19_T v3 (hk1 := fun s19 => ?_) σ (0 : Int32)
    · refine T_iinc (pc := 153) (y := 1) (lv' := [(0, .ref 10), (3, .int (v3 + (1 : Int32)))]) 1 dX12_farOf_153 (by decide) rfl (Nat.le_of_ble_eq_true rfl) rfl ?_
      refine T_goto (pc := 156) 8 dX12_farOf_156 (by decide) ?_
      exact hkb s19 (v3 + (1 : Int32))
set_option maxRecDepth 100000 in
set_option maxHeartbeats 4000000 in
theorem fX12_farOf_P8_T (σ : St) {k1 : St → Option (Int32 × St)} (hk1 : ∀ (σ' : St), T kX12_farOf cSi σ' 159 [(0, .ref 10)] [] (k1 σ')) (v3 : Int32) : T kX12_farOf cSi σ 8 [(0, .ref 10), (3, .int v3)] [] (fX12_farOf_P8 k1 σ v3) :=
  it_T (S := (fun t : St × Int32 => t.1)) (lv := fun t : St × Int32 => [(0, .ref 10), (3, .int t.2)]) (st := fun _ => []) (fun kb hkb t => fX12_farOf_L8_T (hk1 := hk1) (hkb := fun σ v3 => hkb (σ, v3)) t.1 t.2) FU (σ, v3)
set_option maxRecDepth 100000 in
set_option maxHeartbeats 4000000 in
theorem ctX12_farOf (σ : St) (p0 : Int32) (p1 : Int32) : Ct yX12_farOf kX12_farOf [.ref 10, .int p0, .int p1] σ cSi (fX12_farOf σ p0 p1) := by
  refine Ct.of (by decide +kernel) rfl rfl (Nat.le_of_ble_eq_true rfl) ?_
  unfold fX12_farOf
  show T _ _ _ 0 [(0, .ref 10), (1, .int p0), (2, .int p1)] [] _
  refine T_aload_n (pc := 0) 0 dX12_farOf_0 rfl rfl ?_
  refine T_iload_n (pc := 1) 1 dX12_farOf_1 rfl rfl ?_
  refine T_iload_n (pc := 2) 2 dX12_farOf_2 rfl rfl ?_
  refine T_callSv (pc := 3) (rest := []) (Rn_V (pc := 3) (as := [.int p0, .int p1]) (rest := []) (ctX12_layTexts σ p0 p1) rfl rfl mv_X12_layTexts hw1885 rfl ⟨Nat.le_of_ble_eq_true rfl, Nat.le_of_ble_eq_true rfl⟩ (Nat.le_of_ble_eq_true rfl) dX12_farOf_3 rfl) rfl (fun s1 => ?_)
  refine T_iconst (pc := 6) (v := 0) dX12_farOf_6 (by decide) ?_
  refine T_istore_n (pc := 7) (lv' := [(0, .ref 10), (1, .int p0), (2, .int p1), (3, .int (0 : Int32))]) dX12_farOf_7 rfl (Nat.le_of_ble_eq_true rfl) rfl ?_
  refine T_pick (lv' := [(0, .ref 10), (3, .int (0 : Int32))]) [0, 3] rfl ?_
  refine fX12_farOf_P8_T (hk1 := fun s20 => ?_) s1 (0 : Int32)
  · refine T_aload_n (pc := 159) 0 dX12_farOf_159 rfl rfl ?_
    refine T_getA (pc := 160) fd_10_33 hw1536 dX12_farOf_160 ?_
    refine T_bipush (pc := 163) (v := 21) dX12_farOf_163 (by decide) ?_
    refine T_aload_n (pc := 165) 0 dX12_farOf_165 rfl rfl ?_
    refine T_getI (pc := 166) fd_10_34 hw1537 dX12_farOf_166 ?_
    refine T_imul (pc := 169) dX12_farOf_169 ?_
    refine T_aload_n (pc := 170) 0 dX12_farOf_170 rfl rfl ?_
    refine T_getI (pc := 171) fd_10_35 hw1538 dX12_farOf_171 ?_
    refine T_iadd (pc := 174) dX12_farOf_174 ?_
    refine T_iald (pc := 175) rfl dX12_farOf_175 (fun x21 => ?_)
    exact T_ireturn (pc := 176) rfl dX12_farOf_176 rfl
set_option maxRecDepth 100000 in
set_option maxHeartbeats 4000000 in
theorem ctX12_far (σ : St) (p0 : Int32) (p1 : Int32) : Ct yX12_far kX12_far [.ref 10, .int p0, .int p1] σ cSi (fX12_far σ p0 p1) := by
  refine Ct.of (by decide +kernel) rfl rfl (Nat.le_of_ble_eq_true rfl) ?_
  unfold fX12_far
  show T _ _ _ 0 [(0, .ref 10), (1, .int p0), (2, .int p1)] [] _
  refine T_aload_n (pc := 0) 0 dX12_far_0 rfl rfl ?_
  refine T_iconst (pc := 1) (v := 0) dX12_far_1 (by decide) ?_
  refine T_putI (pc := 2) fd_10_0 hw1503 dX12_far_2 ?_
  refine T_letS (fun s1 => ?_)
  refine T_aload_n (pc := 5) 0 dX12_far_5 rfl rfl ?_
  refine T_iload_n (pc := 6) 1 dX12_far_6 rfl rfl ?_
  refine T_callPz (pc := 7) (rest := []) (Rn_V (pc := 7) (as := [.int p0]) (rest := []) (ctX12_isSpeech s1 p0) rfl rfl mv_X12_isSpeech hw1849 rfl ⟨Nat.le_of_ble_eq_true rfl, Nat.le_of_ble_eq_true rfl⟩ (Nat.le_of_ble_eq_true rfl) dX12_far_7 rfl) rfl (fun x2 => ?_)
  refine T_if_eq (pc := 10) 30 dX12_far_10 (by decide) (fun _ => ?_) (fun _ => ?_)
  · refine T_iconst (pc := 30) (v := -1) dX12_far_30 (by decide) ?_
    refine T_goto (pc := 31) 40 dX12_far_31 (by decide) ?_
    exact T_ireturn (pc := 40) rfl dX12_far_40 rfl
  · refine T_aload_n (pc := 13) 0 dX12_far_13 rfl rfl ?_
    refine T_iload_n (pc := 14) 2 dX12_far_14 rfl rfl ?_
    refine T_callPz (pc := 15) (rest := []) (Rn_V (pc := 15) (as := [.int p1]) (rest := []) (ctX12_isSpeech s1 p1) rfl rfl mv_X12_isSpeech hw1849 rfl ⟨Nat.le_of_ble_eq_true rfl, Nat.le_of_ble_eq_true rfl⟩ (Nat.le_of_ble_eq_true rfl) dX12_far_15 rfl) rfl (fun x3 => ?_)
    refine T_if_eq (pc := 18) 30 dX12_far_18 (by decide) (fun _ => ?_) (fun _ => ?_)
    · refine T_iconst (pc := 30) (v := -1) dX12_far_30 (by decide) ?_
      refine T_goto (pc := 31) 40 dX12_far_31 (by decide) ?_
      exact T_ireturn (pc := 40) rfl dX12_far_40 rfl
    · refine T_aload_n (pc := 21) 0 dX12_far_21 rfl rfl ?_
      refine T_getA (pc := 22) fd_10_22 hw1525 dX12_far_22 ?_
      refine T_iload_n (pc := 25) 1 dX12_far_25 rfl rfl ?_
      refine T_iald (pc := 26) rfl dX12_far_26 (fun x4 => ?_)
      refine T_if_ne (pc := 27) 34 dX12_far_27 (by decide) (fun _ => ?_) (fun _ => ?_)
      · refine T_aload_n (pc := 34) 0 dX12_far_34 rfl rfl ?_
        refine T_iload_n (pc := 35) 1 dX12_far_35 rfl rfl ?_
        refine T_iload_n (pc := 36) 2 dX12_far_36 rfl rfl ?_
        refine T_callSi (pc := 37) (rest := []) (Rn_V (pc := 37) (as := [.int p0, .int p1]) (rest := []) (ctX12_farOf s1 p0 p1) rfl rfl mv_X12_farOf hw1881 rfl ⟨Nat.le_of_ble_eq_true rfl, Nat.le_of_ble_eq_true rfl⟩ (Nat.le_of_ble_eq_true rfl) dX12_far_37 rfl) rfl (fun r5 => ?_)
        exact T_ireturn (pc := 40) rfl dX12_far_40 rfl
      · refine T_iconst (pc := 30) (v := -1) dX12_far_30 (by decide) ?_
        refine T_goto (pc := 31) 40 dX12_far_31 (by decide) ?_
        exact T_ireturn (pc := 40) rfl dX12_far_40 rfl
set_option maxRecDepth 100000 in
set_option maxHeartbeats 4000000 in
theorem ctX12_begin_55 (σ : St) (p1 : Int32) (p2 : Int32) : Ct yX12_begin kX12_begin_55 [.ref 10, .ref 55, .int p1, .int p2] σ cSv (fX12_begin_55 σ p1 p2) := by
  refine Ct.of (by decide +kernel) rfl rfl (Nat.le_of_ble_eq_true rfl) ?_
  unfold fX12_begin_55
  show T _ _ _ 0 [(0, .ref 10), (1, .ref 55), (2, .int p1), (3, .int p2)] [] _
  refine T_aload_n (pc := 0) 0 dX12_begin_0 rfl rfl ?_
  refine T_aload_n (pc := 1) 1 dX12_begin_1 rfl rfl ?_
  refine T_putR (pc := 2) fd_10_6 hw1509 dX12_begin_2 rfl ?_
  refine T_letS (fun s1 => ?_)
  refine T_aload_n (pc := 5) 0 dX12_begin_5 rfl rfl ?_
  refine T_iload_n (pc := 6) 2 dX12_begin_6 rfl rfl ?_
  refine T_putI (pc := 7) fd_10_11 hw1514 dX12_begin_7 ?_
  refine T_letS (fun s2 => ?_)
  refine T_aload_n (pc := 10) 0 dX12_begin_10 rfl rfl ?_
  refine T_iload_n (pc := 11) 3 dX12_begin_11 rfl rfl ?_
  refine T_putI (pc := 12) fd_10_12 hw1515 dX12_begin_12 ?_
  refine T_letS (fun s3 => ?_)
  refine T_aload_n (pc := 15) 0 dX12_begin_15 rfl rfl ?_
  refine T_iconst (pc := 16) (v := 0) dX12_begin_16 (by decide) ?_
  refine T_putI (pc := 17) fd_10_13 hw1516 dX12_begin_17 ?_
  refine T_letS (fun s4 => ?_)
  refine T_aload_n (pc := 20) 0 dX12_begin_20 rfl rfl ?_
  refine T_iconst (pc := 21) (v := -1) dX12_begin_21 (by decide) ?_
  refine T_putI (pc := 22) fd_10_14 hw1517 dX12_begin_22 ?_
  refine T_letS (fun s5 => ?_)
  exact T_return (pc := 25) rfl dX12_begin_25 rfl
set_option maxRecDepth 100000 in
set_option maxHeartbeats 4000000 in
theorem fX12_goThrough_55_L32_T (σ : St) {k1 : St → Option St} {kb : St → Option St} (hk1 : ∀ (σ' : St), T kX12_goThrough_55 cSv σ' 66 [(0, .ref 10)] [] (k1 σ')) (hkb : ∀ (σ' : St), T kX12_goThrough_55 cSv σ' 32 [(0, .ref 10)] [] (kb σ')) : T kX12_goThrough_55 cSv σ 32 [(0, .ref 10)] [] (fX12_goThrough_55_L32 k1 kb σ) := by
  unfold fX12_goThrough_55_L32
  refine T_aload_n (pc := 32) 0 dX12_goThrough_32 rfl rfl ?_
  refine T_getI (pc := 33) fd_10_14 hw1517 dX12_goThrough_33 ?_
  refine T_iconst (pc := 36) (v := -1) dX12_goThrough_36 (by decide) ?_
  refine T_icmp_ne (pc := 37) 66 dX12_goThrough_37 (by decide) (fun _ => ?_) (fun _ => ?_)
  · exact hk1 σ
  · refine T_aload_n (pc := 40) 0 dX12_goThrough_40 rfl rfl ?_
    refine T_callSi (pc := 41) (rest := []) (Rn_V (pc := 41) (as := []) (rest := []) (ctX12_look σ) rfl rfl mv_X12_look hw1704 rfl ⟨Nat.le_of_ble_eq_true rfl, Nat.le_of_ble_eq_true rfl⟩ (Nat.le_of_ble_eq_true rfl) dX12_goThrough_41 rfl) rfl (fun r7 => ?_)
    refine T_bipush (pc := 44) (v := 59) dX12_goThrough_44 (by decide) ?_
    refine T_icmp_ne (pc := 46) 66 dX12_goThrough_46 (by decide) (fun _ => ?_) (fun _ => ?_)
    · exact hk1 r7.2
    · refine T_aload_n (pc := 49) 0 dX12_goThrough_49 rfl rfl ?_
      refine T_dup_a (pc := 50) dX12_goThrough_50 ?_
      refine T_getI (pc := 51) fd_10_13 hw1516 dX12_goThrough_51 ?_
      refine T_iconst (pc := 54) (v := 1) dX12_goThrough_54 (by decide) ?_
      refine T_iadd (pc := 55) dX12_goThrough_55 ?_
      refine T_putI (pc := 56) fd_10_13 hw1516 dX12_goThrough_56 ?_
      refine T_letS (fun s8 => ?_)
      refine T_aload_n (pc := 59) 0 dX12_goThrough_59 rfl rfl ?_
      refine T_callSv (pc := 60) (rest := []) (Rn_V (pc := 60) (as := []) (rest := []) (ctX12_clause s8) rfl rfl mv_X12_clause hw1739 rfl ⟨Nat.le_of_ble_eq_true rfl, Nat.le_of_ble_eq_true rfl⟩ (Nat.le_of_ble_eq_true rfl) dX12_goThrough_60 rfl) rfl (fun s9 => ?_)
      refine T_goto (pc := 63) 32 dX12_goThrough_63 (by decide) ?_
      exact hkb s9
set_option maxRecDepth 100000 in
set_option maxHeartbeats 4000000 in
theorem fX12_goThrough_55_P32_T (σ : St) {k1 : St → Option St} (hk1 : ∀ (σ' : St), T kX12_goThrough_55 cSv σ' 66 [(0, .ref 10)] [] (k1 σ')) : T kX12_goThrough_55 cSv σ 32 [(0, .ref 10)] [] (fX12_goThrough_55_P32 k1 σ) :=
  it_T (S := (fun t : St => t)) (lv := fun t : St => [(0, .ref 10)]) (st := fun _ => []) (fun kb hkb t => fX12_goThrough_55_L32_T (hk1 := hk1) (hkb := fun σ => hkb σ) t) FU σ
set_option maxRecDepth 100000 in
set_option maxHeartbeats 4000000 in
theorem ctX12_goThrough_55 (σ : St) (p1 : Int32) (p2 : Int32) : Ct yX12_goThrough kX12_goThrough_55 [.ref 10, .ref 55, .int p1, .int p2] σ cSv (fX12_goThrough_55 σ p1 p2) := by
  refine Ct.of (by decide +kernel) rfl rfl (Nat.le_of_ble_eq_true rfl) ?_
  unfold fX12_goThrough_55
  show T _ _ _ 0 [(0, .ref 10), (1, .ref 55), (2, .int p1), (3, .int p2)] [] _
  refine T_aload_n (pc := 0) 0 dX12_goThrough_0 rfl rfl ?_
  refine T_aload_n (pc := 1) 1 dX12_goThrough_1 rfl rfl ?_
  refine T_iload_n (pc := 2) 2 dX12_goThrough_2 rfl rfl ?_
  refine T_iload_n (pc := 3) 3 dX12_goThrough_3 rfl rfl ?_
  refine T_callSv (pc := 4) (rest := []) (Rn_V (pc := 4) (as := [.ref 55, .int p1, .int p2]) (rest := []) (ctX12_begin_55 σ p1 p2) rfl rfl mv_X12_begin hw1696 rfl ⟨Nat.le_of_ble_eq_true rfl, Nat.le_of_ble_eq_true rfl⟩ (Nat.le_of_ble_eq_true rfl) dX12_goThrough_4 rfl) rfl (fun s1 => ?_)
  refine T_aload_n (pc := 7) 0 dX12_goThrough_7 rfl rfl ?_
  refine T_bipush (pc := 8) (v := 121) dX12_goThrough_8 (by decide) ?_
  refine T_putI (pc := 10) fd_10_16 hw1519 dX12_goThrough_10 ?_
  refine T_letS (fun s2 => ?_)
  refine T_aload_n (pc := 13) 0 dX12_goThrough_13 rfl rfl ?_
  refine T_iconst (pc := 14) (v := 0) dX12_goThrough_14 (by decide) ?_
  refine T_putI (pc := 15) fd_10_15 hw1518 dX12_goThrough_15 ?_
  refine T_letS (fun s3 => ?_)
  refine T_aload_n (pc := 18) 0 dX12_goThrough_18 rfl rfl ?_
  refine T_iconst (pc := 19) (v := 0) dX12_goThrough_19 (by decide) ?_
  refine T_putZ (pc := 20) fd_10_20 hw1523 dX12_goThrough_20 rfl rfl ?_
  refine T_letS (fun s4 => ?_)
  refine T_aload_n (pc := 23) 0 dX12_goThrough_23 rfl rfl ?_
  refine T_iconst (pc := 24) (v := 0) dX12_goThrough_24 (by decide) ?_
  refine T_putI (pc := 25) fd_10_17 hw1520 dX12_goThrough_25 ?_
  refine T_letS (fun s5 => ?_)
  refine T_aload_n (pc := 28) 0 dX12_goThrough_28 rfl rfl ?_
  refine T_callSv (pc := 29) (rest := []) (Rn_V (pc := 29) (as := []) (rest := []) (ctX12_clause s5) rfl rfl mv_X12_clause hw1739 rfl ⟨Nat.le_of_ble_eq_true rfl, Nat.le_of_ble_eq_true rfl⟩ (Nat.le_of_ble_eq_true rfl) dX12_goThrough_29 rfl) rfl (fun s6 => ?_)
  refine T_pick (lv' := [(0, .ref 10)]) [0] rfl ?_
  refine fX12_goThrough_55_P32_T (hk1 := fun s10 => ?_) s6
  · refine T_aload_n (pc := 66) 0 dX12_goThrough_66 rfl rfl ?_
    refine T_getI (pc := 67) fd_10_14 hw1517 dX12_goThrough_67 ?_
    refine T_iconst (pc := 70) (v := -1) dX12_goThrough_70 (by decide) ?_
    refine T_icmp_ne (pc := 71) 87 dX12_goThrough_71 (by decide) (fun _ => ?_) (fun _ => ?_)
    · exact T_return (pc := 87) rfl dX12_goThrough_87 rfl
    · refine T_aload_n (pc := 74) 0 dX12_goThrough_74 rfl rfl ?_
      refine T_callSi (pc := 75) (rest := []) (Rn_V (pc := 75) (as := []) (rest := []) (ctX12_look s10) rfl rfl mv_X12_look hw1704 rfl ⟨Nat.le_of_ble_eq_true rfl, Nat.le_of_ble_eq_true rfl⟩ (Nat.le_of_ble_eq_true rfl) dX12_goThrough_75 rfl) rfl (fun r11 => ?_)
      refine T_iconst (pc := 78) (v := -1) dX12_goThrough_78 (by decide) ?_
      refine T_icmp_eq (pc := 79) 87 dX12_goThrough_79 (by decide) (fun _ => ?_) (fun _ => ?_)
      · exact T_return (pc := 87) rfl dX12_goThrough_87 rfl
      · refine T_aload_n (pc := 82) 0 dX12_goThrough_82 rfl rfl ?_
        refine T_callSz (pc := 83) (rest := []) (Rn_V (pc := 83) (as := []) (rest := []) (ctX12_fails r11.2) rfl rfl mv_X12_fails hw1708 rfl ⟨Nat.le_of_ble_eq_true rfl, Nat.le_of_ble_eq_true rfl⟩ (Nat.le_of_ble_eq_true rfl) dX12_goThrough_83 rfl) rfl (fun r12 => ?_)
        refine T_pop_i (pc := 86) dX12_goThrough_86 ?_
        exact T_return (pc := 87) rfl dX12_goThrough_87 rfl
set_option maxRecDepth 100000 in
set_option maxHeartbeats 4000000 in
theorem fX12_readPlot_L34_T (v1 : Int32) (σ : St) {k1 : St → Option St} {k2 : St → Int32 → Int32 → Option St} {kb : St → Int32 → Int32 → Option St} (hk1 : ∀ (σ' : St), T kX12_readPlot cSv σ' 60 [(0, .ref 10)] [] (k1 σ')) (hk2 : ∀ (σ' : St) (w3 : Int32) (w4 : Int32), T kX12_readPlot cSv σ' 105 [(0, .ref 10), (1, .int v1), (3, .int w3), (4, .int w4)] [] (k2 σ' w3 w4)) (hkb : ∀ (σ' : St) (w3 : Int32) (w4 : Int32), T kX12_readPlot cSv σ' 34 [(0, .ref 10), (1, .int v1), (3, .int w3), (4, .int w4)] [] (kb σ' w3 w4)) (v3 : Int32) (v4 : Int32) : T kX12_readPlot cSv σ 34 [(0, .ref 10), (1, .int v1), (3, .int v3), (4, .int v4)] [] (fX12_readPlot_L34 v1 k1 k2 kb σ v3 v4) := by
  unfold fX12_readPlot_L34
  refine T_iload (pc := 34) 3 dX12_readPlot_34 rfl ?_
  refine T_bipush (pc := 36) (v := 97) dX12_readPlot_36 (by decide) ?_
  refine T_icmp_lt (pc := 38) 60 dX12_readPlot_38 (by decide) (fun _ => ?_) (fun _ => ?_)
  · refine T_pick (lv' := [(0, .ref 10)]) [0] rfl ?_
    exact hk1 σ
  · refine T_iload (pc := 41) 3 dX12_readPlot_41 rfl ?_
    refine T_bipush (pc := 43) (v := 106) dX12_readPlot_43 (by decide) ?_
    refine T_icmp_gt (pc := 45) 60 dX12_readPlot_45 (by decide) (fun _ => ?_) (fun _ => ?_)
    · refine T_pick (lv' := [(0, .ref 10)]) [0] rfl ?_
      exact hk1 σ
    · refine T_iload_n (pc := 48) 2 dX12_readPlot_48 rfl rfl ?_
      refine T_iload (pc := 49) 3 dX12_readPlot_49 rfl ?_
      refine T_bipush (pc := 51) (v := 97) dX12_readPlot_51 (by decide) ?_
      refine T_isub (pc := 53) dX12_readPlot_53 ?_
      refine T_callPz (pc := 54) (rest := []) (Rn_S (pc := 54) (as := [.int v3, .int (v4 - (97 : Int32))]) (rest := []) (ctX12_has σ v3 (v4 - (97 : Int32))) ms_X12_has hw1732 rfl ⟨Nat.le_of_ble_eq_true rfl, Nat.le_of_ble_eq_true rfl⟩ (Nat.le_of_ble_eq_true rfl) dX12_readPlot_54 rfl) rfl (fun x4 => ?_)
      refine T_if_eq (pc := 57) 66 dX12_readPlot_57 (by decide) (fun _ => ?_) (fun _ => ?_)
      · refine T_iload_n (pc := 66) 2 dX12_readPlot_66 rfl rfl ?_
        refine T_iconst (pc := 67) (v := 1) dX12_readPlot_67 (by decide) ?_
        refine T_iload (pc := 68) 3 dX12_readPlot_68 rfl ?_
        refine T_bipush (pc := 70) (v := 97) dX12_readPlot_70 (by decide) ?_
        refine T_isub (pc := 72) dX12_readPlot_72 ?_
        refine T_ishl (pc := 73) dX12_readPlot_73 ?_
        refine T_ior (pc := 74) dX12_readPlot_74 ?_
        refine T_letI (fun x5 => ?_)
        refine T_istore_n (pc := 75) (lv' := [(0, .ref 10), (1, .int v1), (3, .int x5), (4, .int v4)]) dX12_readPlot_75 rfl (Nat.le_of_ble_eq_true rfl) rfl ?_
        refine T_aload_n (pc := 76) 0 dX12_readPlot_76 rfl rfl ?_
        refine T_dup_a (pc := 77) dX12_readPlot_77 ?_
        refine T_getI (pc := 78) fd_10_13 hw1516 dX12_readPlot_78 ?_
        refine T_iconst (pc := 81) (v := 1) dX12_readPlot_81 (by decide) ?_
        refine T_iadd (pc := 82) dX12_readPlot_82 ?_
        refine T_putI (pc := 83) fd_10_13 hw1516 dX12_readPlot_83 ?_
        refine T_letS (fun s6 => ?_)
        refine T_aload_n (pc := 86) 0 dX12_readPlot_86 rfl rfl ?_
        refine T_callSi (pc := 87) (rest := []) (Rn_V (pc := 87) (as := []) (rest := []) (ctX12_look s6) rfl rfl mv_X12_look hw1704 rfl ⟨Nat.le_of_ble_eq_true rfl, Nat.le_of_ble_eq_true rfl⟩ (Nat.le_of_ble_eq_true rfl) dX12_readPlot_87 rfl) rfl (fun r7 => ?_)
        refine T_istore (pc := 90) (lv' := [(0, .ref 10), (1, .int v1), (3, .int x5), (4, .int r7.1)]) dX12_readPlot_90 (Nat.le_of_ble_eq_true rfl) rfl ?_
        refine T_iload (pc := 92) 3 dX12_readPlot_92 rfl ?_
        refine T_iconst (pc := 94) (v := -1) dX12_readPlot_94 (by decide) ?_
        refine T_icmp_eq (pc := 95) 105 dX12_readPlot_95 (by decide) (fun _ => ?_) (fun _ => ?_)
        · exact hk2 r7.2 x5 r7.1
        · refine T_iload (pc := 98) 3 dX12_readPlot_98 rfl ?_
          refine T_bipush (pc := 100) (v := 47) dX12_readPlot_100 (by decide) ?_
          refine T_icmp_ne (pc := 102) 34 dX12_readPlot_102 (by decide) (fun _ => ?_) (fun _ => ?_)
          · exact hkb r7.2 x5 r7.1
          · exact hk2 r7.2 x5 r7.1
      · refine T_pick (lv' := [(0, .ref 10)]) [0] rfl ?_
        exact hk1 σ
set_option maxRecDepth 100000 in
set_option maxHeartbeats 4000000 in
theorem fX12_readPlot_P34_T (v1 : Int32) (σ : St) {k1 : St → Option St} {k2 : St → Int32 → Int32 → Option St} (hk1 : ∀ (σ' : St), T kX12_readPlot cSv σ' 60 [(0, .ref 10)] [] (k1 σ')) (hk2 : ∀ (σ' : St) (w3 : Int32) (w4 : Int32), T kX12_readPlot cSv σ' 105 [(0, .ref 10), (1, .int v1), (3, .int w3), (4, .int w4)] [] (k2 σ' w3 w4)) (v3 : Int32) (v4 : Int32) : T kX12_readPlot cSv σ 34 [(0, .ref 10), (1, .int v1), (3, .int v3), (4, .int v4)] [] (fX12_readPlot_P34 v1 k1 k2 σ v3 v4) :=
  it_T (S := (fun t : St × Int32 × Int32 => t.1)) (lv := fun t : St × Int32 × Int32 => [(0, .ref 10), (1, .int v1), (3, .int t.2.1), (4, .int t.2.2)]) (st := fun _ => []) (fun kb hkb t => fX12_readPlot_L34_T v1 (hk1 := hk1) (hk2 := hk2) (hkb := fun σ v3 v4 => hkb (σ, v3, v4)) t.1 t.2.1 t.2.2) FU (σ, v3, v4)
set_option maxRecDepth 100000 in
set_option maxHeartbeats 4000000 in
theorem fX12_readPlot_J105_T (σ : St) (v1 : Int32) (v3 : Int32) (v4 : Int32) {k2 : St → Option St} {kb : St → Int32 → Option St} (hk2 : ∀ (σ' : St), T kX12_readPlot cSv σ' 160 [(0, .ref 10)] [] (k2 σ')) (hkb : ∀ (σ' : St) (w2 : Int32), T kX12_readPlot cSv σ' 22 [(0, .ref 10), (1, .int v1), (2, .int w2)] [] (kb σ' w2)) : T kX12_readPlot cSv σ 105 [(0, .ref 10), (1, .int v1), (3, .int v3), (4, .int v4)] [] (fX12_readPlot_J105 k2 kb σ v1 v3 v4) := by
  unfold fX12_readPlot_J105
  refine T_aload_n (pc := 105) 0 dX12_readPlot_105 rfl rfl ?_
  refine T_getA (pc := 106) fd_10_29 hw1532 dX12_readPlot_106 ?_
  refine T_bipush (pc := 109) (v := 20) dX12_readPlot_109 (by decide) ?_
  refine T_iload_n (pc := 111) 1 dX12_readPlot_111 rfl rfl ?_
  refine T_imul (pc := 112) dX12_readPlot_112 ?_
  refine T_aload_n (pc := 113) 0 dX12_readPlot_113 rfl rfl ?_
  refine T_getA (pc := 114) fd_10_28 hw1531 dX12_readPlot_114 ?_
  refine T_iload_n (pc := 117) 1 dX12_readPlot_117 rfl rfl ?_
  refine T_iald (pc := 118) rfl dX12_readPlot_118 (fun x12 => ?_)
  refine T_iadd (pc := 119) dX12_readPlot_119 ?_
  refine T_iload_n (pc := 120) 2 dX12_readPlot_120 rfl rfl ?_
  refine T_iast (pc := 121) rfl dX12_readPlot_121 ?_
  refine T_letS (fun s13 => ?_)
  refine T_aload_n (pc := 122) 0 dX12_readPlot_122 rfl rfl ?_
  refine T_getA (pc := 123) fd_10_28 hw1531 dX12_readPlot_123 ?_
  refine T_iload_n (pc := 126) 1 dX12_readPlot_126 rfl rfl ?_
  refine T_dup2_ia (pc := 127) dX12_readPlot_127 ?_
  refine T_iald (pc := 128) rfl dX12_readPlot_128 (fun x14 => ?_)
  refine T_iconst (pc := 129) (v := 1) dX12_readPlot_129 (by decide) ?_
  refine T_iadd (pc := 130) dX12_readPlot_130 ?_
  refine T_iast (pc := 131) rfl dX12_readPlot_131 ?_
  refine T_letS (fun s15 => ?_)
  refine T_iload (pc := 132) 3 dX12_readPlot_132 rfl ?_
  refine T_bipush (pc := 134) (v := 47) dX12_readPlot_134 (by decide) ?_
  refine T_icmp_ne (pc := 136) 143 dX12_readPlot_136 (by decide) (fun _ => ?_) (fun _ => ?_)
  · refine T_iconst (pc := 143) (v := 0) dX12_readPlot_143 (by decide) ?_
    refine T_istore_n (pc := 144) (lv' := [(0, .ref 10), (1, .int v1), (2, .int (0 : Int32)), (3, .int v3), (4, .int v4)]) dX12_readPlot_144 rfl (Nat.le_of_ble_eq_true rfl) rfl ?_
    refine T_iload_n (pc := 145) 2 dX12_readPlot_145 rfl rfl ?_
    refine T_if_eq (pc := 146) 166 dX12_readPlot_146 (by decide) (fun _ => ?_) (fun _ => ?_)
    · refine T_iload_n (pc := 166) 2 dX12_readPlot_166 rfl rfl ?_
      refine T_if_eq (pc := 167) 180 dX12_readPlot_167 (by decide) (fun _ => ?_) (fun _ => ?_)
      · refine T_goto (pc := 180) 22 dX12_readPlot_180 (by decide) ?_
        refine T_pick (lv' := [(0, .ref 10), (1, .int v1), (2, .int (0 : Int32))]) [0, 1, 2] rfl ?_
        exact hkb s15 (0 : Int32)
      · refine T_aload_n (pc := 170) 0 dX12_readPlot_170 rfl rfl ?_
        refine T_dup_a (pc := 171) dX12_readPlot_171 ?_
        refine T_getI (pc := 172) fd_10_13 hw1516 dX12_readPlot_172 ?_
        refine T_iconst (pc := 175) (v := 1) dX12_readPlot_175 (by decide) ?_
        refine T_iadd (pc := 176) dX12_readPlot_176 ?_
        refine T_putI (pc := 177) fd_10_13 hw1516 dX12_readPlot_177 ?_
        refine T_letS (fun s16 => ?_)
        refine T_goto (pc := 180) 22 dX12_readPlot_180 (by decide) ?_
        refine T_pick (lv' := [(0, .ref 10), (1, .int v1), (2, .int (0 : Int32))]) [0, 1, 2] rfl ?_
        exact hkb s16 (0 : Int32)
    · refine T_aload_n (pc := 149) 0 dX12_readPlot_149 rfl rfl ?_
      refine T_getA (pc := 150) fd_10_28 hw1531 dX12_readPlot_150 ?_
      refine T_iload_n (pc := 153) 1 dX12_readPlot_153 rfl rfl ?_
      refine T_iald (pc := 154) rfl dX12_readPlot_154 (fun x17 => ?_)
      refine T_bipush (pc := 155) (v := 20) dX12_readPlot_155 (by decide) ?_
      refine T_icmp_ne (pc := 157) 166 dX12_readPlot_157 (by decide) (fun _ => ?_) (fun _ => ?_)
      · refine T_iload_n (pc := 166) 2 dX12_readPlot_166 rfl rfl ?_
        refine T_if_eq (pc := 167) 180 dX12_readPlot_167 (by decide) (fun _ => ?_) (fun _ => ?_)
        · refine T_goto (pc := 180) 22 dX12_readPlot_180 (by decide) ?_
          refine T_pick (lv' := [(0, .ref 10), (1, .int v1), (2, .int (0 : Int32))]) [0, 1, 2] rfl ?_
          exact hkb s15 (0 : Int32)
        · refine T_aload_n (pc := 170) 0 dX12_readPlot_170 rfl rfl ?_
          refine T_dup_a (pc := 171) dX12_readPlot_171 ?_
          refine T_getI (pc := 172) fd_10_13 hw1516 dX12_readPlot_172 ?_
          refine T_iconst (pc := 175) (v := 1) dX12_readPlot_175 (by decide) ?_
          refine T_iadd (pc := 176) dX12_readPlot_176 ?_
          refine T_putI (pc := 177) fd_10_13 hw1516 dX12_readPlot_177 ?_
          refine T_letS (fun s18 => ?_)
          refine T_goto (pc := 180) 22 dX12_readPlot_180 (by decide) ?_
          refine T_pick (lv' := [(0, .ref 10), (1, .int v1), (2, .int (0 : Int32))]) [0, 1, 2] rfl ?_
          exact hkb s18 (0 : Int32)
      · refine T_pick (lv' := [(0, .ref 10)]) [0] rfl ?_
        exact hk2 s15
  · refine T_iconst (pc := 139) (v := 1) dX12_readPlot_139 (by decide) ?_
    refine T_goto (pc := 140) 144 dX12_readPlot_140 (by decide) ?_
    refine T_istore_n (pc := 144) (lv' := [(0, .ref 10), (1, .int v1), (2, .int (1 : Int32)), (3, .int v3), (4, .int v4)]) dX12_readPlot_144 rfl (Nat.le_of_ble_eq_true rfl) rfl ?_
    refine T_iload_n (pc := 145) 2 dX12_readPlot_145 rfl rfl ?_
    refine T_if_eq (pc := 146) 166 dX12_readPlot_146 (by decide) (fun _ => ?_) (fun _ => ?_)
    · refine T_iload_n (pc := 166) 2 dX12_readPlot_166 rfl rfl ?_
      refine T_if_eq (pc := 167) 180 dX12_readPlot_167 (by decide) (fun _ => ?_) (fun _ => ?_)
      · refine T_goto (pc := 180) 22 dX12_readPlot_180 (by decide) ?_
        refine T_pick (lv' := [(0, .ref 10), (1, .int v1), (2, .int (1 : Int32))]) [0, 1, 2] rfl ?_
        exact hkb s15 (1 : Int32)
      · refine T_aload_n (pc := 170) 0 dX12_readPlot_170 rfl rfl ?_
        refine T_dup_a (pc := 171) dX12_readPlot_171 ?_
        refine T_getI (pc := 172) fd_10_13 hw1516 dX12_readPlot_172 ?_
        refine T_iconst (pc := 175) (v := 1) dX12_readPlot_175 (by decide) ?_
        refine T_iadd (pc := 176) dX12_readPlot_176 ?_
        refine T_putI (pc := 177) fd_10_13 hw1516 dX12_readPlot_177 ?_
        refine T_letS (fun s19 => ?_)
        refine T_goto (pc := 180) 22 dX12_readPlot_180 (by decide) ?_
        refine T_pick (lv' := [(0, .ref 10), (1, .int v1), (2, .int (1 : Int32))]) [0, 1, 2] rfl ?_
        exact hkb s19 (1 : Int32)
    · refine T_aload_n (pc := 149) 0 dX12_readPlot_149 rfl rfl ?_
      refine T_getA (pc := 150) fd_10_28 hw1531 dX12_readPlot_150 ?_
      refine T_iload_n (pc := 153) 1 dX12_readPlot_153 rfl rfl ?_
      refine T_iald (pc := 154) rfl dX12_readPlot_154 (fun x20 => ?_)
      refine T_bipush (pc := 155) (v := 20) dX12_readPlot_155 (by decide) ?_
      refine T_icmp_ne (pc := 157) 166 dX12_readPlot_157 (by decide) (fun _ => ?_) (fun _ => ?_)
      · refine T_iload_n (pc := 166) 2 dX12_readPlot_166 rfl rfl ?_
        refine T_if_eq (pc := 167) 180 dX12_readPlot_167 (by decide) (fun _ => ?_) (fun _ => ?_)
        · refine T_goto (pc := 180) 22 dX12_readPlot_180 (by decide) ?_
          refine T_pick (lv' := [(0, .ref 10), (1, .int v1), (2, .int (1 : Int32))]) [0, 1, 2] rfl ?_
          exact hkb s15 (1 : Int32)
        · refine T_aload_n (pc := 170) 0 dX12_readPlot_170 rfl rfl ?_
          refine T_dup_a (pc := 171) dX12_readPlot_171 ?_
          refine T_getI (pc := 172) fd_10_13 hw1516 dX12_readPlot_172 ?_
          refine T_iconst (pc := 175) (v := 1) dX12_readPlot_175 (by decide) ?_
          refine T_iadd (pc := 176) dX12_readPlot_176 ?_
          refine T_putI (pc := 177) fd_10_13 hw1516 dX12_readPlot_177 ?_
          refine T_letS (fun s21 => ?_)
          refine T_goto (pc := 180) 22 dX12_readPlot_180 (by decide) ?_
          refine T_pick (lv' := [(0, .ref 10), (1, .int v1), (2, .int (1 : Int32))]) [0, 1, 2] rfl ?_
          exact hkb s21 (1 : Int32)
      · refine T_pick (lv' := [(0, .ref 10)]) [0] rfl ?_
        exact hk2 s15
set_option maxRecDepth 100000 in
set_option maxHeartbeats 4000000 in
theorem fX12_readPlot_L22_T (v1 : Int32) (σ : St) {k1 : St → Option St} {k2 : St → Option St} {kb : St → Int32 → Option St} (hk1 : ∀ (σ' : St), T kX12_readPlot cSv σ' 60 [(0, .ref 10)] [] (k1 σ')) (hk2 : ∀ (σ' : St), T kX12_readPlot cSv σ' 160 [(0, .ref 10)] [] (k2 σ')) (hkb : ∀ (σ' : St) (w2 : Int32), T kX12_readPlot cSv σ' 22 [(0, .ref 10), (1, .int v1), (2, .int w2)] [] (kb σ' w2)) (v2 : Int32) : T kX12_readPlot cSv σ 22 [(0, .ref 10), (1, .int v1), (2, .int v2)] [] (fX12_readPlot_L22 v1 k1 k2 kb σ v2) := by
  unfold fX12_readPlot_L22
  refine T_iload_n (pc := 22) 2 dX12_readPlot_22 rfl rfl ?_
  refine T_if_eq (pc := 23) 183 dX12_readPlot_23 (by decide) (fun _ => ?_) (fun _ => ?_)
  · exact T_return (pc := 183) rfl dX12_readPlot_183 rfl
  · refine T_iconst (pc := 26) (v := 0) dX12_readPlot_26 (by decide) ?_
    refine T_istore_n (pc := 27) (lv' := [(0, .ref 10), (1, .int v1), (2, .int v2), (3, .int (0 : Int32))]) dX12_readPlot_27 rfl (Nat.le_of_ble_eq_true rfl) rfl ?_
    refine T_aload_n (pc := 28) 0 dX12_readPlot_28 rfl rfl ?_
    refine T_callSi (pc := 29) (rest := []) (Rn_V (pc := 29) (as := []) (rest := []) (ctX12_look σ) rfl rfl mv_X12_look hw1704 rfl ⟨Nat.le_of_ble_eq_true rfl, Nat.le_of_ble_eq_true rfl⟩ (Nat.le_of_ble_eq_true rfl) dX12_readPlot_29 rfl) rfl (fun r3 => ?_)
    refine T_istore (pc := 32) (lv' := [(0, .ref 10), (1, .int v1), (2, .int v2), (3, .int (0 : Int32)), (4, .int r3.1)]) dX12_readPlot_32 (Nat.le_of_ble_eq_true rfl) rfl ?_
    refine T_pick (lv' := [(0, .ref 10), (1, .int v1), (3, .int (0 : Int32)), (4, .int r3.1)]) [0, 1, 3, 4] rfl ?_
    refine fX12_readPlot_P34_T v1 (hk1 := fun s8 => ?_) (hk2 := fun s9 x10 x11 => ?_) r3.2 (0 : Int32) r3.1
    · exact hk1 s8
    · exact fX12_readPlot_J105_T (hk2 := hk2) (hkb := hkb) s9 v1 x10 x11
set_option maxRecDepth 100000 in
set_option maxHeartbeats 4000000 in
theorem fX12_readPlot_P22_T (v1 : Int32) (σ : St) {k1 : St → Option St} {k2 : St → Option St} (hk1 : ∀ (σ' : St), T kX12_readPlot cSv σ' 60 [(0, .ref 10)] [] (k1 σ')) (hk2 : ∀ (σ' : St), T kX12_readPlot cSv σ' 160 [(0, .ref 10)] [] (k2 σ')) (v2 : Int32) : T kX12_readPlot cSv σ 22 [(0, .ref 10), (1, .int v1), (2, .int v2)] [] (fX12_readPlot_P22 v1 k1 k2 σ v2) :=
  it_T (S := (fun t : St × Int32 => t.1)) (lv := fun t : St × Int32 => [(0, .ref 10), (1, .int v1), (2, .int t.2)]) (st := fun _ => []) (fun kb hkb t => fX12_readPlot_L22_T v1 (hk1 := hk1) (hk2 := hk2) (hkb := fun σ v2 => hkb (σ, v2)) t.1 t.2) FU (σ, v2)
set_option maxRecDepth 100000 in
set_option maxHeartbeats 4000000 in
theorem ctX12_readPlot (σ : St) (p0 : Int32) : Ct yX12_readPlot kX12_readPlot [.ref 10, .int p0] σ cSv (fX12_readPlot σ p0) := by
  refine Ct.of (by decide +kernel) rfl rfl (Nat.le_of_ble_eq_true rfl) ?_
  unfold fX12_readPlot
  show T _ _ _ 0 [(0, .ref 10), (1, .int p0)] [] _
  refine T_aload_n (pc := 0) 0 dX12_readPlot_0 rfl rfl ?_
  refine T_aload_n (pc := 1) 0 dX12_readPlot_1 rfl rfl ?_
  refine T_getA (pc := 2) fd_10_1 hw1504 dX12_readPlot_2 ?_
  refine T_iconst (pc := 5) (v := 0) dX12_readPlot_5 (by decide) ?_
  refine T_aload_n (pc := 6) 0 dX12_readPlot_6 rfl rfl ?_
  refine T_getI (pc := 7) fd_10_7 hw1510 dX12_readPlot_7 ?_
  refine T_callSv (pc := 10) (rest := []) (Rn_V (pc := 10) (as := [.ref 55, .int (0 : Int32), .int (zI σ 31)]) (rest := []) (ctX12_begin_55 σ (0 : Int32) (zI σ 31)) rfl rfl mv_X12_begin hw1696 rfl ⟨Nat.le_of_ble_eq_true rfl, Nat.le_of_ble_eq_true rfl⟩ (Nat.le_of_ble_eq_true rfl) dX12_readPlot_10 rfl) rfl (fun s1 => ?_)
  refine T_aload_n (pc := 13) 0 dX12_readPlot_13 rfl rfl ?_
  refine T_getA (pc := 14) fd_10_28 hw1531 dX12_readPlot_14 ?_
  refine T_iload_n (pc := 17) 1 dX12_readPlot_17 rfl rfl ?_
  refine T_iconst (pc := 18) (v := 0) dX12_readPlot_18 (by decide) ?_
  refine T_iast (pc := 19) rfl dX12_readPlot_19 ?_
  refine T_letS (fun s2 => ?_)
  refine T_iconst (pc := 20) (v := 1) dX12_readPlot_20 (by decide) ?_
  refine T_istore_n (pc := 21) (lv' := [(0, .ref 10), (1, .int p0), (2, .int (1 : Int32))]) dX12_readPlot_21 rfl (Nat.le_of_ble_eq_true rfl) rfl ?_
  refine fX12_readPlot_P22_T p0 (hk1 := fun s22 => ?_) (hk2 := fun s24 => ?_) s2 (1 : Int32)
  · refine T_aload_n (pc := 60) 0 dX12_readPlot_60 rfl rfl ?_
    refine T_callSz (pc := 61) (rest := []) (Rn_V (pc := 61) (as := []) (rest := []) (ctX12_fails s22) rfl rfl mv_X12_fails hw1708 rfl ⟨Nat.le_of_ble_eq_true rfl, Nat.le_of_ble_eq_true rfl⟩ (Nat.le_of_ble_eq_true rfl) dX12_readPlot_61 rfl) rfl (fun r23 => ?_)
    refine T_pop_i (pc := 64) dX12_readPlot_64 ?_
    exact T_return (pc := 65) rfl dX12_readPlot_65 rfl
  · refine T_aload_n (pc := 160) 0 dX12_readPlot_160 rfl rfl ?_
    refine T_callSz (pc := 161) (rest := []) (Rn_V (pc := 161) (as := []) (rest := []) (ctX12_fails s24) rfl rfl mv_X12_fails hw1708 rfl ⟨Nat.le_of_ble_eq_true rfl, Nat.le_of_ble_eq_true rfl⟩ (Nat.le_of_ble_eq_true rfl) dX12_readPlot_161 rfl) rfl (fun r25 => ?_)
    refine T_pop_i (pc := 164) dX12_readPlot_164 ?_
    exact T_return (pc := 165) rfl dX12_readPlot_165 rfl
set_option maxRecDepth 100000 in
set_option maxHeartbeats 4000000 in
theorem ctX12_isLetter (σ : St) : Ct yX12_isLetter kX12_isLetter [.ref 10] σ (cPz σ) (fX12_isLetter σ) := by
  refine Ct.of (by decide +kernel) rfl rfl (Nat.le_of_ble_eq_true rfl) ?_
  unfold fX12_isLetter
  show T _ _ _ 0 [(0, .ref 10)] [] _
  refine T_aload_n (pc := 0) 0 dX12_isLetter_0 rfl rfl ?_
  refine T_getI (pc := 1) fd_10_13 hw1516 dX12_isLetter_1 ?_
  refine T_aload_n (pc := 4) 0 dX12_isLetter_4 rfl rfl ?_
  refine T_getI (pc := 5) fd_10_12 hw1515 dX12_isLetter_5 ?_
  refine T_icmp_ge (pc := 8) 53 dX12_isLetter_8 (by decide) (fun _ => ?_) (fun _ => ?_)
  · refine T_iconst (pc := 53) (v := 0) dX12_isLetter_53 (by decide) ?_
    exact T_zreturn (pc := 54) false rfl dX12_isLetter_54 rfl rfl
  · refine T_aload_n (pc := 11) 0 dX12_isLetter_11 rfl rfl ?_
    refine T_getR (pc := 12) fd_10_6 hw1509 dX12_isLetter_12 ?_
    refine T_aload_n (pc := 15) 0 dX12_isLetter_15 rfl rfl ?_
    refine T_getI (pc := 16) fd_10_11 hw1514 dX12_isLetter_16 ?_
    refine T_aload_n (pc := 19) 0 dX12_isLetter_19 rfl rfl ?_
    refine T_getI (pc := 20) fd_10_13 hw1516 dX12_isLetter_20 ?_
    refine T_iadd (pc := 23) dX12_isLetter_23 ?_
    refine T_baldX (pc := 24) dX12_isLetter_24 (fun x1 => ?_)
    refine T_bipush (pc := 25) (v := 97) dX12_isLetter_25 (by decide) ?_
    refine T_icmp_lt (pc := 27) 53 dX12_isLetter_27 (by decide) (fun _ => ?_) (fun _ => ?_)
    · refine T_iconst (pc := 53) (v := 0) dX12_isLetter_53 (by decide) ?_
      exact T_zreturn (pc := 54) false rfl dX12_isLetter_54 rfl rfl
    · refine T_aload_n (pc := 30) 0 dX12_isLetter_30 rfl rfl ?_
      refine T_getR (pc := 31) fd_10_6 hw1509 dX12_isLetter_31 ?_
      refine T_aload_n (pc := 34) 0 dX12_isLetter_34 rfl rfl ?_
      refine T_getI (pc := 35) fd_10_11 hw1514 dX12_isLetter_35 ?_
      refine T_aload_n (pc := 38) 0 dX12_isLetter_38 rfl rfl ?_
      refine T_getI (pc := 39) fd_10_13 hw1516 dX12_isLetter_39 ?_
      refine T_iadd (pc := 42) dX12_isLetter_42 ?_
      refine T_baldX (pc := 43) dX12_isLetter_43 (fun x2 => ?_)
      refine T_bipush (pc := 44) (v := 122) dX12_isLetter_44 (by decide) ?_
      refine T_icmp_gt (pc := 46) 53 dX12_isLetter_46 (by decide) (fun _ => ?_) (fun _ => ?_)
      · refine T_iconst (pc := 53) (v := 0) dX12_isLetter_53 (by decide) ?_
        exact T_zreturn (pc := 54) false rfl dX12_isLetter_54 rfl rfl
      · refine T_iconst (pc := 49) (v := 1) dX12_isLetter_49 (by decide) ?_
        refine T_goto (pc := 50) 54 dX12_isLetter_50 (by decide) ?_
        exact T_zreturn (pc := 54) true rfl dX12_isLetter_54 rfl rfl
set_option maxRecDepth 100000 in
set_option maxHeartbeats 4000000 in
theorem fX12_readWord_L2_T (σ : St) {k1 : St → Int32 → Option (Int32 × St)} {k2 : St → Int32 → Option (Int32 × St)} {kb : St → Int32 → Option (Int32 × St)} (hk1 : ∀ (σ' : St) (w1 : Int32), T kX12_readWord cSi σ' 15 [(0, .ref 10), (1, .int w1)] [] (k1 σ' w1)) (hk2 : ∀ (σ' : St) (w1 : Int32), T kX12_readWord cSi σ' 38 [(0, .ref 10), (1, .int w1)] [] (k2 σ' w1)) (hkb : ∀ (σ' : St) (w1 : Int32), T kX12_readWord cSi σ' 2 [(0, .ref 10), (1, .int w1)] [] (kb σ' w1)) (v1 : Int32) : T kX12_readWord cSi σ 2 [(0, .ref 10), (1, .int v1)] [] (fX12_readWord_L2 k1 k2 kb σ v1) := by
  unfold fX12_readWord_L2
  refine T_aload_n (pc := 2) 0 dX12_readWord_2 rfl rfl ?_
  refine T_callPz (pc := 3) (rest := []) (Rn_V (pc := 3) (as := []) (rest := []) (ctX12_isLetter σ) rfl rfl mv_X12_isLetter hw1716 rfl ⟨Nat.le_of_ble_eq_true rfl, Nat.le_of_ble_eq_true rfl⟩ (Nat.le_of_ble_eq_true rfl) dX12_readWord_3 rfl) rfl (fun x1 => ?_)
  refine T_if_eq (pc := 6) 38 dX12_readWord_6 (by decide) (fun _ => ?_) (fun _ => ?_)
  · exact hk2 σ v1
  · refine T_iload_n (pc := 9) 1 dX12_readWord_9 rfl rfl ?_
    refine T_bipush (pc := 10) (v := 8) dX12_readWord_10 (by decide) ?_
    refine T_icmp_ne (pc := 12) 22 dX12_readWord_12 (by decide) (fun _ => ?_) (fun _ => ?_)
    · refine T_aload_n (pc := 22) 0 dX12_readWord_22 rfl rfl ?_
      refine T_dup_a (pc := 23) dX12_readWord_23 ?_
      refine T_getI (pc := 24) fd_10_13 hw1516 dX12_readWord_24 ?_
      refine T_iconst (pc := 27) (v := 1) dX12_readWord_27 (by decide) ?_
      refine T_iadd (pc := 28) dX12_readWord_28 ?_
      refine T_putI (pc := 29) fd_10_13 hw1516 dX12_readWord_29 ?_
      refine T_letS (fun s2 => ?_)
      refine T_iinc (pc := 32) (y := 1) (lv' := [(0, .ref 10), (1, .int (v1 + (1 : Int32)))]) 1 dX12_readWord_32 (by decide) rfl (Nat.le_of_ble_eq_true rfl) rfl ?_
      refine T_goto (pc := 35) 2 dX12_readWord_35 (by decide) ?_
      exact hkb s2 (v1 + (1 : Int32))
    · exact hk1 σ v1
set_option maxRecDepth 100000 in
set_option maxHeartbeats 4000000 in
theorem fX12_readWord_P2_T (σ : St) {k1 : St → Int32 → Option (Int32 × St)} {k2 : St → Int32 → Option (Int32 × St)} (hk1 : ∀ (σ' : St) (w1 : Int32), T kX12_readWord cSi σ' 15 [(0, .ref 10), (1, .int w1)] [] (k1 σ' w1)) (hk2 : ∀ (σ' : St) (w1 : Int32), T kX12_readWord cSi σ' 38 [(0, .ref 10), (1, .int w1)] [] (k2 σ' w1)) (v1 : Int32) : T kX12_readWord cSi σ 2 [(0, .ref 10), (1, .int v1)] [] (fX12_readWord_P2 k1 k2 σ v1) :=
  it_T (S := (fun t : St × Int32 => t.1)) (lv := fun t : St × Int32 => [(0, .ref 10), (1, .int t.2)]) (st := fun _ => []) (fun kb hkb t => fX12_readWord_L2_T (hk1 := hk1) (hk2 := hk2) (hkb := fun σ v1 => hkb (σ, v1)) t.1 t.2) FU (σ, v1)
set_option maxRecDepth 100000 in
set_option maxHeartbeats 4000000 in
theorem ctX12_readWord (σ : St) : Ct yX12_readWord kX12_readWord [.ref 10] σ cSi (fX12_readWord σ) := by
  refine Ct.of (by decide +kernel) rfl rfl (Nat.le_of_ble_eq_true rfl) ?_
  unfold fX12_readWord
  show T _ _ _ 0 [(0, .ref 10)] [] _
  refine T_iconst (pc := 0) (v := 0) dX12_readWord_0 (by decide) ?_
  refine T_istore_n (pc := 1) (lv' := [(0, .ref 10), (1, .int (0 : Int32))]) dX12_readWord_1 rfl (Nat.le_of_ble_eq_true rfl) rfl ?_
  refine fX12_readWord_P2_T (hk1 := fun s3 x4 => ?_) (hk2 := fun s6 x7 => ?_) σ (0 : Int32)
  · refine T_aload_n (pc := 15) 0 dX12_readWord_15 rfl rfl ?_
    refine T_callSz (pc := 16) (rest := []) (Rn_V (pc := 16) (as := []) (rest := []) (ctX12_fails s3) rfl rfl mv_X12_fails hw1708 rfl ⟨Nat.le_of_ble_eq_true rfl, Nat.le_of_ble_eq_true rfl⟩ (Nat.le_of_ble_eq_true rfl) dX12_readWord_16 rfl) rfl (fun r5 => ?_)
    refine T_pop_i (pc := 19) dX12_readWord_19 ?_
    refine T_iload_n (pc := 20) 1 dX12_readWord_20 rfl rfl ?_
    exact T_ireturn (pc := 21) rfl dX12_readWord_21 rfl
  · refine T_iload_n (pc := 38) 1 dX12_readWord_38 rfl rfl ?_
    refine T_if_ne (pc := 39) 47 dX12_readWord_39 (by decide) (fun _ => ?_) (fun _ => ?_)
    · refine T_iload_n (pc := 47) 1 dX12_readWord_47 rfl rfl ?_
      exact T_ireturn (pc := 48) rfl dX12_readWord_48 rfl
    · refine T_aload_n (pc := 42) 0 dX12_readWord_42 rfl rfl ?_
      refine T_callSz (pc := 43) (rest := []) (Rn_V (pc := 43) (as := []) (rest := []) (ctX12_fails s6) rfl rfl mv_X12_fails hw1708 rfl ⟨Nat.le_of_ble_eq_true rfl, Nat.le_of_ble_eq_true rfl⟩ (Nat.le_of_ble_eq_true rfl) dX12_readWord_43 rfl) rfl (fun r8 => ?_)
      refine T_pop_i (pc := 46) dX12_readWord_46 ?_
      refine T_iload_n (pc := 47) 1 dX12_readWord_47 rfl rfl ?_
      exact T_ireturn (pc := 48) rfl dX12_readWord_48 rfl
