/-! methods X12_boys .. X12_count: by program (wip/gen) -/
set_option maxRecDepth 100000 in
set_option maxHeartbeats 4000000 in
theorem ctX12_boys (σ : St) (p0 : Int32) : Ct yX12_boys kX12_boys [.ref 10, .int p0] σ cSz (fX12_boys σ p0) := by
  refine Ct.of (by decide +kernel) rfl rfl (Nat.le_of_ble_eq_true rfl) ?_
  unfold fX12_boys
  show T _ _ _ 0 [(0, .ref 10), (1, .int p0)] [] _
  refine T_aload_n (pc := 0) 0 dX12_boys_0 rfl rfl ?_
  refine T_iconst (pc := 1) (v := 0) dX12_boys_1 (by decide) ?_
  refine T_putI (pc := 2) fd_10_0 hw1503 dX12_boys_2 ?_
  refine T_letS (fun s1 => ?_)
  refine T_iload_n (pc := 5) 1 dX12_boys_5 rfl rfl ?_
  refine T_iconst (pc := 6) (v := 0) dX12_boys_6 (by decide) ?_
  refine T_sipush (pc := 7) (v := 1023) dX12_boys_7 (by decide) ?_
  refine T_callPz (pc := 10) (rest := []) (Rn_S (pc := 10) (as := [.int p0, .int (0 : Int32), .int (1023 : Int32)]) (rest := []) (ctX12_isIn s1 p0 (0 : Int32) (1023 : Int32)) ms_X12_isIn hw1689 rfl ⟨Nat.le_of_ble_eq_true rfl, Nat.le_of_ble_eq_true rfl⟩ (Nat.le_of_ble_eq_true rfl) dX12_boys_10 rfl) rfl (fun x2 => ?_)
  refine T_if_ne (pc := 13) 18 dX12_boys_13 (by decide) (fun _ => ?_) (fun _ => ?_)
  · refine T_aload_n (pc := 18) 0 dX12_boys_18 rfl rfl ?_
    refine T_iload_n (pc := 19) 1 dX12_boys_19 rfl rfl ?_
    refine T_putI (pc := 20) fd_10_50 hw1553 dX12_boys_20 ?_
    refine T_letS (fun s3 => ?_)
    refine T_iconst (pc := 23) (v := 1) dX12_boys_23 (by decide) ?_
    exact T_zreturn (pc := 24) true rfl dX12_boys_24 rfl rfl
  · refine T_iconst (pc := 16) (v := 0) dX12_boys_16 (by decide) ?_
    exact T_zreturn (pc := 17) false rfl dX12_boys_17 rfl rfl
set_option maxRecDepth 100000 in
set_option maxHeartbeats 4000000 in
theorem fX12_bytesIn_L5_T (v0 : Int32) (σ : St) {kb : Int32 → Int32 → Option Int32} (hkb : ∀ (w1 : Int32) (w2 : Int32), T kX12_bytesIn (cPi σ) σ 5 [(0, .int v0), (1, .int w1), (2, .int w2)] [] (kb w1 w2)) (v1 : Int32) (v2 : Int32) : T kX12_bytesIn (cPi σ) σ 5 [(0, .int v0), (1, .int v1), (2, .int v2)] [] (fX12_bytesIn_L5 v0 kb v1 v2) := by
  unfold fX12_bytesIn_L5
  refine T_iload_n (pc := 5) 2 dX12_bytesIn_5 rfl rfl ?_
  refine T_if_lt (pc := 6) 33 dX12_bytesIn_6 (by decide) (fun _ => ?_) (fun _ => ?_)
  · refine T_iload_n (pc := 33) 1 dX12_bytesIn_33 rfl rfl ?_
    exact T_ireturn (pc := 34) rfl dX12_bytesIn_34 rfl
  · refine T_iload_n (pc := 9) 1 dX12_bytesIn_9 rfl rfl ?_
    refine T_iload_n (pc := 10) 0 dX12_bytesIn_10 rfl rfl ?_
    refine T_iload_n (pc := 11) 2 dX12_bytesIn_11 rfl rfl ?_
    refine T_ishr (pc := 12) dX12_bytesIn_12 ?_
    refine T_sipush (pc := 13) (v := 255) dX12_bytesIn_13 (by decide) ?_
    refine T_iand (pc := 16) dX12_bytesIn_16 ?_
    refine T_if_eq (pc := 17) 24 dX12_bytesIn_17 (by decide) (fun _ => ?_) (fun _ => ?_)
    · refine T_iconst (pc := 24) (v := 0) dX12_bytesIn_24 (by decide) ?_
      refine T_iadd (pc := 25) dX12_bytesIn_25 ?_
      refine T_letI (fun x1 => ?_)
      refine T_istore_n (pc := 26) (lv' := [(0, .int v0), (1, .int x1), (2, .int v2)]) dX12_bytesIn_26 rfl (Nat.le_of_ble_eq_true rfl) rfl ?_
      refine T_iinc (pc := 27) (y := -8) (lv' := [(0, .int v0), (1, .int x1), (2, .int (v2 + (-8 : Int32)))]) 2 dX12_bytesIn_27 (by decide) rfl (Nat.le_of_ble_eq_true rfl) rfl ?_
      refine T_goto (pc := 30) 5 dX12_bytesIn_30 (by decide) ?_
      exact hkb x1 (v2 + (-8 : Int32))
    · refine T_iconst (pc := 20) (v := 1) dX12_bytesIn_20 (by decide) ?_
      refine T_goto (pc := 21) 25 dX12_bytesIn_21 (by decide) ?_
      refine T_iadd (pc := 25) dX12_bytesIn_25 ?_
      refine T_letI (fun x2 => ?_)
      refine T_istore_n (pc := 26) (lv' := [(0, .int v0), (1, .int x2), (2, .int v2)]) dX12_bytesIn_26 rfl (Nat.le_of_ble_eq_true rfl) rfl ?_
      refine T_iinc (pc := 27) (y := -8) (lv' := [(0, .int v0), (1, .int x2), (2, .int (v2 + (-8 : Int32)))]) 2 dX12_bytesIn_27 (by decide) rfl (Nat.le_of_ble_eq_true rfl) rfl ?_
      refine T_goto (pc := 30) 5 dX12_bytesIn_30 (by decide) ?_
      exact hkb x2 (v2 + (-8 : Int32))
set_option maxRecDepth 100000 in
set_option maxHeartbeats 4000000 in
theorem fX12_bytesIn_P5_T (v0 : Int32) (σ : St) (v1 : Int32) (v2 : Int32) : T kX12_bytesIn (cPi σ) σ 5 [(0, .int v0), (1, .int v1), (2, .int v2)] [] (fX12_bytesIn_P5 v0 v1 v2) :=
  it_T (S := (fun _ : Int32 × Int32 => σ)) (lv := fun t : Int32 × Int32 => [(0, .int v0), (1, .int t.1), (2, .int t.2)]) (st := fun _ => []) (fun kb hkb t => fX12_bytesIn_L5_T v0 (hkb := fun v1 v2 => hkb (v1, v2)) σ t.1 t.2) FU (v1, v2)
set_option maxRecDepth 100000 in
set_option maxHeartbeats 4000000 in
theorem ctX12_bytesIn (σ : St) (p0 : Int32) : Ct yX12_bytesIn kX12_bytesIn [.int p0] σ (cPi σ) (fX12_bytesIn p0) := by
  refine Ct.of (by decide +kernel) rfl rfl (Nat.le_of_ble_eq_true rfl) ?_
  unfold fX12_bytesIn
  show T _ _ _ 0 [(0, .int p0)] [] _
  refine T_iconst (pc := 0) (v := 0) dX12_bytesIn_0 (by decide) ?_
  refine T_istore_n (pc := 1) (lv' := [(0, .int p0), (1, .int (0 : Int32))]) dX12_bytesIn_1 rfl (Nat.le_of_ble_eq_true rfl) rfl ?_
  refine T_bipush (pc := 2) (v := 24) dX12_bytesIn_2 (by decide) ?_
  refine T_istore_n (pc := 4) (lv' := [(0, .int p0), (1, .int (0 : Int32)), (2, .int (24 : Int32))]) dX12_bytesIn_4 rfl (Nat.le_of_ble_eq_true rfl) rfl ?_
  exact fX12_bytesIn_P5_T p0 σ (0 : Int32) (24 : Int32)
set_option maxRecDepth 100000 in
set_option maxHeartbeats 4000000 in
theorem fX12_dress_L46_T (d : Nat) (rec : St → Int32 → Int32 → Int32 → Int32 → Int32 → Option (Bool × St)) (hrec : ∀ (σ : St) (p0 : Int32) (p1 : Int32) (p2 : Int32) (p3 : Int32) (p4 : Int32), Ct yX12_dress (kX12_dress d) [.ref 10, .int p0, .int p1, .int p2, .int p3, .int p4] σ cSz (rec σ p0 p1 p2 p3 p4)) (v1 : Int32) (v2 : Int32) (v3 : Int32) (v4 : Int32) (v5 : Int32) (v6 : Int32) (σ : St) {k1 : Int32 → Option (Bool × St)} {kb : Int32 → Int32 → Option (Bool × St)} (hk1 : ∀ (w7 : Int32), T (kX12_dress (d + 1)) cSz σ 124 [(0, .ref 10), (1, .int v1), (2, .int v2), (3, .int v3), (4, .int v4), (5, .int v5), (6, .int v6), (7, .int w7)] [] (k1 w7)) (hkb : ∀ (w7 : Int32) (w8 : Int32), T (kX12_dress (d + 1)) cSz σ 46 [(0, .ref 10), (1, .int v1), (2, .int v2), (3, .int v3), (4, .int v4), (5, .int v5), (6, .int v6), (7, .int w7), (8, .int w8)] [] (kb w7 w8)) (v7 : Int32) (v8 : Int32) : T (kX12_dress (d + 1)) cSz σ 46 [(0, .ref 10), (1, .int v1), (2, .int v2), (3, .int v3), (4, .int v4), (5, .int v5), (6, .int v6), (7, .int v7), (8, .int v8)] [] (fX12_dress_L46 rec v1 v2 v3 v4 v5 v6 k1 kb σ v7 v8) := by
  unfold fX12_dress_L46
  refine T_iload (pc := 46) 8 dX12_dress_46 rfl ?_
  refine T_iload_n (pc := 48) 3 dX12_dress_48 rfl rfl ?_
  refine T_icmp_ge (pc := 49) 124 dX12_dress_49 (by decide) (fun _ => ?_) (fun _ => ?_)
  · refine T_pick (lv' := [(0, .ref 10), (1, .int v1), (2, .int v2), (3, .int v3), (4, .int v4), (5, .int v5), (6, .int v6), (7, .int v7)]) [0, 1, 2, 3, 4, 5, 6, 7] rfl ?_
    exact hk1 v7
  · refine T_iload (pc := 52) 7 dX12_dress_52 rfl ?_
    refine T_if_eq (pc := 54) 115 dX12_dress_54 (by decide) (fun _ => ?_) (fun _ => ?_)
    · refine T_iconst (pc := 115) (v := 0) dX12_dress_115 (by decide) ?_
      refine T_istore (pc := 116) (lv' := [(0, .ref 10), (1, .int v1), (2, .int v2), (3, .int v3), (4, .int v4), (5, .int v5), (6, .int v6), (7, .int (0 : Int32)), (8, .int v8)]) dX12_dress_116 (Nat.le_of_ble_eq_true rfl) rfl ?_
      refine T_iinc (pc := 118) (y := 1) (lv' := [(0, .ref 10), (1, .int v1), (2, .int v2), (3, .int v3), (4, .int v4), (5, .int v5), (6, .int v6), (7, .int (0 : Int32)), (8, .int (v8 + (1 : Int32)))]) 8 dX12_dress_118 (by decide) rfl (Nat.le_of_ble_eq_true rfl) rfl ?_
      refine T_goto (pc := 121) 46 dX12_dress_121 (by decide) ?_
      exact hkb (0 : Int32) (v8 + (1 : Int32))
    · refine T_iload_n (pc := 57) 2 dX12_dress_57 rfl rfl ?_
      refine T_iload (pc := 58) 8 dX12_dress_58 rfl ?_
      refine T_callPz (pc := 60) (rest := []) (Rn_S (pc := 60) (as := [.int v2, .int v8]) (rest := []) (ctX12_has σ v2 v8) ms_X12_has hw1732 rfl ⟨by simp only [kX12_has, kX12_dress]; omega, by simp only [kX12_has, kX12_dress]; omega⟩ (Nat.le_of_ble_eq_true rfl) dX12_dress_60 rfl) rfl (fun x2 => ?_)
      refine T_if_eq (pc := 63) 111 dX12_dress_63 (by decide) (fun _ => ?_) (fun _ => ?_)
      · refine T_iconst (pc := 111) (v := 1) dX12_dress_111 (by decide) ?_
        refine T_goto (pc := 112) 116 dX12_dress_112 (by decide) ?_
        refine T_istore (pc := 116) (lv' := [(0, .ref 10), (1, .int v1), (2, .int v2), (3, .int v3), (4, .int v4), (5, .int v5), (6, .int v6), (7, .int (1 : Int32)), (8, .int v8)]) dX12_dress_116 (Nat.le_of_ble_eq_true rfl) rfl ?_
        refine T_iinc (pc := 118) (y := 1) (lv' := [(0, .ref 10), (1, .int v1), (2, .int v2), (3, .int v3), (4, .int v4), (5, .int v5), (6, .int v6), (7, .int (1 : Int32)), (8, .int (v8 + (1 : Int32)))]) 8 dX12_dress_118 (by decide) rfl (Nat.le_of_ble_eq_true rfl) rfl ?_
        refine T_goto (pc := 121) 46 dX12_dress_121 (by decide) ?_
        exact hkb (1 : Int32) (v8 + (1 : Int32))
      · refine T_aload_n (pc := 66) 0 dX12_dress_66 rfl rfl ?_
        refine T_getA (pc := 67) fd_10_51 hw1554 dX12_dress_67 ?_
        refine T_iload (pc := 70) 8 dX12_dress_70 rfl ?_
        refine T_iald (pc := 72) rfl dX12_dress_72 (fun x3 => ?_)
        refine T_iload (pc := 73) 6 dX12_dress_73 rfl ?_
        refine T_icmp_ne (pc := 75) 111 dX12_dress_75 (by decide) (fun _ => ?_) (fun _ => ?_)
        · refine T_iconst (pc := 111) (v := 1) dX12_dress_111 (by decide) ?_
          refine T_goto (pc := 112) 116 dX12_dress_112 (by decide) ?_
          refine T_istore (pc := 116) (lv' := [(0, .ref 10), (1, .int v1), (2, .int v2), (3, .int v3), (4, .int v4), (5, .int v5), (6, .int v6), (7, .int (1 : Int32)), (8, .int v8)]) dX12_dress_116 (Nat.le_of_ble_eq_true rfl) rfl ?_
          refine T_iinc (pc := 118) (y := 1) (lv' := [(0, .ref 10), (1, .int v1), (2, .int v2), (3, .int v3), (4, .int v4), (5, .int v5), (6, .int v6), (7, .int (1 : Int32)), (8, .int (v8 + (1 : Int32)))]) 8 dX12_dress_118 (by decide) rfl (Nat.le_of_ble_eq_true rfl) rfl ?_
          refine T_goto (pc := 121) 46 dX12_dress_121 (by decide) ?_
          exact hkb (1 : Int32) (v8 + (1 : Int32))
        · refine T_aload_n (pc := 78) 0 dX12_dress_78 rfl rfl ?_
          refine T_getI (pc := 79) fd_10_50 hw1553 dX12_dress_79 ?_
          refine T_iload (pc := 82) 8 dX12_dress_82 rfl ?_
          refine T_callPz (pc := 84) (rest := []) (Rn_S (pc := 84) (as := [.int (zI σ 50), .int v8]) (rest := []) (ctX12_has σ (zI σ 50) v8) ms_X12_has hw1732 rfl ⟨by simp only [kX12_has, kX12_dress]; omega, by simp only [kX12_has, kX12_dress]; omega⟩ (Nat.le_of_ble_eq_true rfl) dX12_dress_84 rfl) rfl (fun x4 => ?_)
          refine T_aload_n (pc := 87) 0 dX12_dress_87 rfl rfl ?_
          refine T_getI (pc := 88) fd_10_50 hw1553 dX12_dress_88 ?_
          refine T_iload_n (pc := 91) 3 dX12_dress_91 rfl rfl ?_
          refine T_callPz (pc := 92) (rest := [.int (bi x4)]) (Rn_S (pc := 92) (as := [.int (zI σ 50), .int v3]) (rest := [.int (bi x4)]) (ctX12_has σ (zI σ 50) v3) ms_X12_has hw1732 rfl ⟨by simp only [kX12_has, kX12_dress]; omega, by simp only [kX12_has, kX12_dress]; omega⟩ (Nat.le_of_ble_eq_true rfl) dX12_dress_92 rfl) rfl (fun x5 => ?_)
          refine T_icmp_ne (pc := 95) 115 dX12_dress_95 (by decide) (fun _ => ?_) (fun _ => ?_)
          · refine T_iconst (pc := 115) (v := 0) dX12_dress_115 (by decide) ?_
            refine T_istore (pc := 116) (lv' := [(0, .ref 10), (1, .int v1), (2, .int v2), (3, .int v3), (4, .int v4), (5, .int v5), (6, .int v6), (7, .int (0 : Int32)), (8, .int v8)]) dX12_dress_116 (Nat.le_of_ble_eq_true rfl) rfl ?_
            refine T_iinc (pc := 118) (y := 1) (lv' := [(0, .ref 10), (1, .int v1), (2, .int v2), (3, .int v3), (4, .int v4), (5, .int v5), (6, .int v6), (7, .int (0 : Int32)), (8, .int (v8 + (1 : Int32)))]) 8 dX12_dress_118 (by decide) rfl (Nat.le_of_ble_eq_true rfl) rfl ?_
            refine T_goto (pc := 121) 46 dX12_dress_121 (by decide) ?_
            exact hkb (0 : Int32) (v8 + (1 : Int32))
          · refine T_aload_n (pc := 98) 0 dX12_dress_98 rfl rfl ?_
            refine T_iload_n (pc := 99) 1 dX12_dress_99 rfl rfl ?_
            refine T_iload (pc := 100) 8 dX12_dress_100 rfl ?_
            refine T_iload_n (pc := 102) 3 dX12_dress_102 rfl rfl ?_
            refine T_iload (pc := 103) 5 dX12_dress_103 rfl ?_
            refine T_callPz (pc := 105) (rest := []) (Rn_V (pc := 105) (as := [.int v1, .int v8, .int v3, .int v5]) (rest := []) (ctX12_barsIt σ v1 v8 v3 v5) rfl rfl mv_X12_barsIt hw2072 rfl ⟨by simp only [kX12_barsIt, kX12_dress]; omega, by simp only [kX12_barsIt, kX12_dress]; omega⟩ (Nat.le_of_ble_eq_true rfl) dX12_dress_105 rfl) rfl (fun x6 => ?_)
            refine T_if_ne (pc := 108) 115 dX12_dress_108 (by decide) (fun _ => ?_) (fun _ => ?_)
            · refine T_iconst (pc := 115) (v := 0) dX12_dress_115 (by decide) ?_
              refine T_istore (pc := 116) (lv' := [(0, .ref 10), (1, .int v1), (2, .int v2), (3, .int v3), (4, .int v4), (5, .int v5), (6, .int v6), (7, .int (0 : Int32)), (8, .int v8)]) dX12_dress_116 (Nat.le_of_ble_eq_true rfl) rfl ?_
              refine T_iinc (pc := 118) (y := 1) (lv' := [(0, .ref 10), (1, .int v1), (2, .int v2), (3, .int v3), (4, .int v4), (5, .int v5), (6, .int v6), (7, .int (0 : Int32)), (8, .int (v8 + (1 : Int32)))]) 8 dX12_dress_118 (by decide) rfl (Nat.le_of_ble_eq_true rfl) rfl ?_
              refine T_goto (pc := 121) 46 dX12_dress_121 (by decide) ?_
              exact hkb (0 : Int32) (v8 + (1 : Int32))
            · refine T_iconst (pc := 111) (v := 1) dX12_dress_111 (by decide) ?_
              refine T_goto (pc := 112) 116 dX12_dress_112 (by decide) ?_
              refine T_istore (pc := 116) (lv' := [(0, .ref 10), (1, .int v1), (2, .int v2), (3, .int v3), (4, .int v4), (5, .int v5), (6, .int v6), (7, .int (1 : Int32)), (8, .int v8)]) dX12_dress_116 (Nat.le_of_ble_eq_true rfl) rfl ?_
              refine T_iinc (pc := 118) (y := 1) (lv' := [(0, .ref 10), (1, .int v1), (2, .int v2), (3, .int v3), (4, .int v4), (5, .int v5), (6, .int v6), (7, .int (1 : Int32)), (8, .int (v8 + (1 : Int32)))]) 8 dX12_dress_118 (by decide) rfl (Nat.le_of_ble_eq_true rfl) rfl ?_
              refine T_goto (pc := 121) 46 dX12_dress_121 (by decide) ?_
              exact hkb (1 : Int32) (v8 + (1 : Int32))
set_option maxRecDepth 100000 in
set_option maxHeartbeats 4000000 in
theorem fX12_dress_P46_T (d : Nat) (rec : St → Int32 → Int32 → Int32 → Int32 → Int32 → Option (Bool × St)) (hrec : ∀ (σ : St) (p0 : Int32) (p1 : Int32) (p2 : Int32) (p3 : Int32) (p4 : Int32), Ct yX12_dress (kX12_dress d) [.ref 10, .int p0, .int p1, .int p2, .int p3, .int p4] σ cSz (rec σ p0 p1 p2 p3 p4)) (v1 : Int32) (v2 : Int32) (v3 : Int32) (v4 : Int32) (v5 : Int32) (v6 : Int32) (σ : St) {k1 : Int32 → Option (Bool × St)} (hk1 : ∀ (w7 : Int32), T (kX12_dress (d + 1)) cSz σ 124 [(0, .ref 10), (1, .int v1), (2, .int v2), (3, .int v3), (4, .int v4), (5, .int v5), (6, .int v6), (7, .int w7)] [] (k1 w7)) (v7 : Int32) (v8 : Int32) : T (kX12_dress (d + 1)) cSz σ 46 [(0, .ref 10), (1, .int v1), (2, .int v2), (3, .int v3), (4, .int v4), (5, .int v5), (6, .int v6), (7, .int v7), (8, .int v8)] [] (fX12_dress_P46 rec v1 v2 v3 v4 v5 v6 k1 σ v7 v8) :=
  it_T (S := (fun _ : Int32 × Int32 => σ)) (lv := fun t : Int32 × Int32 => [(0, .ref 10), (1, .int v1), (2, .int v2), (3, .int v3), (4, .int v4), (5, .int v5), (6, .int v6), (7, .int t.1), (8, .int t.2)]) (st := fun _ => []) (fun kb hkb t => fX12_dress_L46_T d rec hrec v1 v2 v3 v4 v5 v6 (hk1 := hk1) (hkb := fun v7 v8 => hkb (v7, v8)) σ t.1 t.2) FU (v7, v8)
set_option maxRecDepth 100000 in
set_option maxHeartbeats 4000000 in
theorem fX12_dress_L33_T (d : Nat) (rec : St → Int32 → Int32 → Int32 → Int32 → Int32 → Option (Bool × St)) (hrec : ∀ (σ : St) (p0 : Int32) (p1 : Int32) (p2 : Int32) (p3 : Int32) (p4 : Int32), Ct yX12_dress (kX12_dress d) [.ref 10, .int p0, .int p1, .int p2, .int p3, .int p4] σ cSz (rec σ p0 p1 p2 p3 p4)) (v1 : Int32) (v2 : Int32) (v3 : Int32) (v4 : Int32) (v5 : Int32) (σ : St) {kb : St → Int32 → Option (Bool × St)} (hkb : ∀ (σ' : St) (w6 : Int32), T (kX12_dress (d + 1)) cSz σ' 33 [(0, .ref 10), (1, .int v1), (2, .int v2), (3, .int v3), (4, .int v4), (5, .int v5), (6, .int w6)] [] (kb σ' w6)) (v6 : Int32) : T (kX12_dress (d + 1)) cSz σ 33 [(0, .ref 10), (1, .int v1), (2, .int v2), (3, .int v3), (4, .int v4), (5, .int v5), (6, .int v6)] [] (fX12_dress_L33 rec v1 v2 v3 v4 v5 kb σ v6) := by
  unfold fX12_dress_L33
  refine T_iload (pc := 33) 6 dX12_dress_33 rfl ?_
  refine T_iload (pc := 35) 4 dX12_dress_35 rfl ?_
  refine T_icmp_ge (pc := 37) 164 dX12_dress_37 (by decide) (fun _ => ?_) (fun _ => ?_)
  · refine T_iconst (pc := 164) (v := 0) dX12_dress_164 (by decide) ?_
    exact T_zreturn (pc := 165) false rfl dX12_dress_165 rfl rfl
  · refine T_iconst (pc := 40) (v := 1) dX12_dress_40 (by decide) ?_
    refine T_istore (pc := 41) (lv' := [(0, .ref 10), (1, .int v1), (2, .int v2), (3, .int v3), (4, .int v4), (5, .int v5), (6, .int v6), (7, .int (1 : Int32))]) dX12_dress_41 (Nat.le_of_ble_eq_true rfl) rfl ?_
    refine T_iconst (pc := 43) (v := 0) dX12_dress_43 (by decide) ?_
    refine T_istore (pc := 44) (lv' := [(0, .ref 10), (1, .int v1), (2, .int v2), (3, .int v3), (4, .int v4), (5, .int v5), (6, .int v6), (7, .int (1 : Int32)), (8, .int (0 : Int32))]) dX12_dress_44 (Nat.le_of_ble_eq_true rfl) rfl ?_
    refine fX12_dress_P46_T d rec hrec v1 v2 v3 v4 v5 v6 (hk1 := fun x7 => ?_) σ (1 : Int32) (0 : Int32)
    · refine T_iload (pc := 124) 7 dX12_dress_124 rfl ?_
      refine T_if_ne (pc := 126) 132 dX12_dress_126 (by decide) (fun _ => ?_) (fun _ => ?_)
      · refine T_aload_n (pc := 132) 0 dX12_dress_132 rfl rfl ?_
        refine T_getA (pc := 133) fd_10_51 hw1554 dX12_dress_133 ?_
        refine T_iload_n (pc := 136) 3 dX12_dress_136 rfl rfl ?_
        refine T_iload (pc := 137) 6 dX12_dress_137 rfl ?_
        refine T_iast (pc := 139) rfl dX12_dress_139 ?_
        refine T_letS (fun s8 => ?_)
        refine T_aload_n (pc := 140) 0 dX12_dress_140 rfl rfl ?_
        refine T_iload_n (pc := 141) 1 dX12_dress_141 rfl rfl ?_
        refine T_iload_n (pc := 142) 2 dX12_dress_142 rfl rfl ?_
        refine T_iload_n (pc := 143) 3 dX12_dress_143 rfl rfl ?_
        refine T_iconst (pc := 144) (v := 1) dX12_dress_144 (by decide) ?_
        refine T_iadd (pc := 145) dX12_dress_145 ?_
        refine T_iload (pc := 146) 4 dX12_dress_146 rfl ?_
        refine T_iload (pc := 148) 5 dX12_dress_148 rfl ?_
        refine T_callSz (pc := 150) (rest := []) (Rn_V (pc := 150) (as := [.int v1, .int v2, .int (v3 + (1 : Int32)), .int v4, .int v5]) (rest := []) (hrec s8 v1 v2 (v3 + (1 : Int32)) v4 v5) rfl rfl mv_X12_dress hw2087 rfl ⟨by simp only [kX12_dress, kX12_dress]; omega, by simp only [kX12_dress, kX12_dress]; omega⟩ (Nat.le_of_ble_eq_true rfl) dX12_dress_150 rfl) rfl (fun r9 => ?_)
        refine T_if_eq (pc := 153) 158 dX12_dress_153 (by decide) (fun _ => ?_) (fun _ => ?_)
        · refine T_iinc (pc := 158) (y := 1) (lv' := [(0, .ref 10), (1, .int v1), (2, .int v2), (3, .int v3), (4, .int v4), (5, .int v5), (6, .int (v6 + (1 : Int32))), (7, .int x7)]) 6 dX12_dress_158 (by decide) rfl (Nat.le_of_ble_eq_true rfl) rfl ?_
          refine T_goto (pc := 161) 33 dX12_dress_161 (by decide) ?_
          refine T_pick (lv' := [(0, .ref 10), (1, .int v1), (2, .int v2), (3, .int v3), (4, .int v4), (5, .int v5), (6, .int (v6 + (1 : Int32)))]) [0, 1, 2, 3, 4, 5, 6] rfl ?_
          exact hkb r9.2 (v6 + (1 : Int32))
        · refine T_iconst (pc := 156) (v := 1) dX12_dress_156 (by decide) ?_
          exact T_zreturn (pc := 157) true rfl dX12_dress_157 rfl rfl
      · refine T_goto (pc := 129) 158 dX12_dress_129 (by decide) ?_
        refine T_iinc (pc := 158) (y := 1) (lv' := [(0, .ref 10), (1, .int v1), (2, .int v2), (3, .int v3), (4, .int v4), (5, .int v5), (6, .int (v6 + (1 : Int32))), (7, .int x7)]) 6 dX12_dress_158 (by decide) rfl (Nat.le_of_ble_eq_true rfl) rfl ?_
        refine T_goto (pc := 161) 33 dX12_dress_161 (by decide) ?_
        refine T_pick (lv' := [(0, .ref 10), (1, .int v1), (2, .int v2), (3, .int v3), (4, .int v4), (5, .int v5), (6, .int (v6 + (1 : Int32)))]) [0, 1, 2, 3, 4, 5, 6] rfl ?_
        exact hkb σ (v6 + (1 : Int32))
set_option maxRecDepth 100000 in
set_option maxHeartbeats 4000000 in
theorem fX12_dress_P33_T (d : Nat) (rec : St → Int32 → Int32 → Int32 → Int32 → Int32 → Option (Bool × St)) (hrec : ∀ (σ : St) (p0 : Int32) (p1 : Int32) (p2 : Int32) (p3 : Int32) (p4 : Int32), Ct yX12_dress (kX12_dress d) [.ref 10, .int p0, .int p1, .int p2, .int p3, .int p4] σ cSz (rec σ p0 p1 p2 p3 p4)) (v1 : Int32) (v2 : Int32) (v3 : Int32) (v4 : Int32) (v5 : Int32) (σ : St) (v6 : Int32) : T (kX12_dress (d + 1)) cSz σ 33 [(0, .ref 10), (1, .int v1), (2, .int v2), (3, .int v3), (4, .int v4), (5, .int v5), (6, .int v6)] [] (fX12_dress_P33 rec v1 v2 v3 v4 v5 σ v6) :=
  it_T (S := (fun t : St × Int32 => t.1)) (lv := fun t : St × Int32 => [(0, .ref 10), (1, .int v1), (2, .int v2), (3, .int v3), (4, .int v4), (5, .int v5), (6, .int t.2)]) (st := fun _ => []) (fun kb hkb t => fX12_dress_L33_T d rec hrec v1 v2 v3 v4 v5 (hkb := fun σ v6 => hkb (σ, v6)) t.1 t.2) FU (σ, v6)
set_option maxRecDepth 100000 in
set_option maxHeartbeats 4000000 in
theorem ctX12_dress_B (d : Nat) (rec : St → Int32 → Int32 → Int32 → Int32 → Int32 → Option (Bool × St)) (hrec : ∀ (σ : St) (p0 : Int32) (p1 : Int32) (p2 : Int32) (p3 : Int32) (p4 : Int32), Ct yX12_dress (kX12_dress d) [.ref 10, .int p0, .int p1, .int p2, .int p3, .int p4] σ cSz (rec σ p0 p1 p2 p3 p4)) (σ : St) (p0 : Int32) (p1 : Int32) (p2 : Int32) (p3 : Int32) (p4 : Int32) : Ct yX12_dress (kX12_dress (d + 1)) [.ref 10, .int p0, .int p1, .int p2, .int p3, .int p4] σ cSz (fX12_dress_B rec σ p0 p1 p2 p3 p4) := by
  refine Ct.of (by decide +kernel) rfl rfl (Nat.le_of_ble_eq_true rfl) ?_
  unfold fX12_dress_B
  show T _ _ _ 0 [(0, .ref 10), (1, .int p0), (2, .int p1), (3, .int p2), (4, .int p3), (5, .int p4)] [] _
  refine T_iload_n (pc := 0) 3 dX12_dress_0 rfl rfl ?_
  refine T_bipush (pc := 1) (v := 10) dX12_dress_1 (by decide) ?_
  refine T_icmp_ne (pc := 3) 8 dX12_dress_3 (by decide) (fun _ => ?_) (fun _ => ?_)
  · refine T_iload_n (pc := 8) 2 dX12_dress_8 rfl rfl ?_
    refine T_iload_n (pc := 9) 3 dX12_dress_9 rfl rfl ?_
    refine T_callPz (pc := 10) (rest := []) (Rn_S (pc := 10) (as := [.int p1, .int p2]) (rest := []) (ctX12_has σ p1 p2) ms_X12_has hw1732 rfl ⟨by simp only [kX12_has, kX12_dress]; omega, by simp only [kX12_has, kX12_dress]; omega⟩ (Nat.le_of_ble_eq_true rfl) dX12_dress_10 rfl) rfl (fun x1 => ?_)
    refine T_if_ne (pc := 13) 30 dX12_dress_13 (by decide) (fun _ => ?_) (fun _ => ?_)
    · refine T_iconst (pc := 30) (v := 0) dX12_dress_30 (by decide) ?_
      refine T_istore (pc := 31) (lv' := [(0, .ref 10), (1, .int p0), (2, .int p1), (3, .int p2), (4, .int p3), (5, .int p4), (6, .int (0 : Int32))]) dX12_dress_31 (Nat.le_of_ble_eq_true rfl) rfl ?_
      exact fX12_dress_P33_T d rec hrec p0 p1 p2 p3 p4 σ (0 : Int32)
    · refine T_aload_n (pc := 16) 0 dX12_dress_16 rfl rfl ?_
      refine T_iload_n (pc := 17) 1 dX12_dress_17 rfl rfl ?_
      refine T_iload_n (pc := 18) 2 dX12_dress_18 rfl rfl ?_
      refine T_iload_n (pc := 19) 3 dX12_dress_19 rfl rfl ?_
      refine T_iconst (pc := 20) (v := 1) dX12_dress_20 (by decide) ?_
      refine T_iadd (pc := 21) dX12_dress_21 ?_
      refine T_iload (pc := 22) 4 dX12_dress_22 rfl ?_
      refine T_iload (pc := 24) 5 dX12_dress_24 rfl ?_
      refine T_callSz (pc := 26) (rest := []) (Rn_V (pc := 26) (as := [.int p0, .int p1, .int (p2 + (1 : Int32)), .int p3, .int p4]) (rest := []) (hrec σ p0 p1 (p2 + (1 : Int32)) p3 p4) rfl rfl mv_X12_dress hw2087 rfl ⟨by simp only [kX12_dress, kX12_dress]; omega, by simp only [kX12_dress, kX12_dress]; omega⟩ (Nat.le_of_ble_eq_true rfl) dX12_dress_26 rfl) rfl (fun r10 => ?_)
      exact T_zreturn (pc := 29) r10.1 rfl dX12_dress_29 rfl rfl
  · refine T_iconst (pc := 6) (v := 1) dX12_dress_6 (by decide) ?_
    exact T_zreturn (pc := 7) true rfl dX12_dress_7 rfl rfl
theorem ctX12_dress : ∀ (d : Nat) (σ : St) (p0 : Int32) (p1 : Int32) (p2 : Int32) (p3 : Int32) (p4 : Int32), Ct yX12_dress (kX12_dress d) [.ref 10, .int p0, .int p1, .int p2, .int p3, .int p4] σ cSz (fX12_dress d σ p0 p1 p2 p3 p4)
  | 0, _, _, _, _, _, _ => fun _ h => by cases h
  | d + 1, σ, p0, p1, p2, p3, p4 => ctX12_dress_B d (fX12_dress d) (ctX12_dress d) σ p0 p1 p2 p3 p4
set_option maxRecDepth 100000 in
set_option maxHeartbeats 4000000 in
theorem fX12_need_L3_T (v1 : Int32) (v2 : Int32) (v3 : Int32) (σ : St) {kb : St → Int32 → Option (Int32 × St)} (hkb : ∀ (σ' : St) (w4 : Int32), T kX12_need cSi σ' 3 [(0, .ref 10), (1, .int v1), (2, .int v2), (3, .int v3), (4, .int w4)] [] (kb σ' w4)) (v4 : Int32) : T kX12_need cSi σ 3 [(0, .ref 10), (1, .int v1), (2, .int v2), (3, .int v3), (4, .int v4)] [] (fX12_need_L3 v1 v2 v3 kb σ v4) := by
  unfold fX12_need_L3
  refine T_aload_n (pc := 3) 0 dX12_need_3 rfl rfl ?_
  refine T_iload_n (pc := 4) 1 dX12_need_4 rfl rfl ?_
  refine T_iload_n (pc := 5) 2 dX12_need_5 rfl rfl ?_
  refine T_iconst (pc := 6) (v := 0) dX12_need_6 (by decide) ?_
  refine T_iload (pc := 7) 4 dX12_need_7 rfl ?_
  refine T_iload_n (pc := 9) 3 dX12_need_9 rfl rfl ?_
  refine T_callSz (pc := 10) (rest := []) (Rn_V (pc := 10) (as := [.int v1, .int v2, .int (0 : Int32), .int v4, .int v3]) (rest := []) (ctX12_dress 12 σ v1 v2 (0 : Int32) v4 v3) rfl rfl mv_X12_dress hw2087 rfl ⟨Nat.le_of_ble_eq_true rfl, Nat.le_of_ble_eq_true rfl⟩ (Nat.le_of_ble_eq_true rfl) dX12_need_10 rfl) rfl (fun r1 => ?_)
  refine T_if_ne (pc := 13) 22 dX12_need_13 (by decide) (fun _ => ?_) (fun _ => ?_)
  · refine T_iload (pc := 22) 4 dX12_need_22 rfl ?_
    exact T_ireturn (pc := 24) rfl dX12_need_24 rfl
  · refine T_iinc (pc := 16) (y := 1) (lv' := [(0, .ref 10), (1, .int v1), (2, .int v2), (3, .int v3), (4, .int (v4 + (1 : Int32)))]) 4 dX12_need_16 (by decide) rfl (Nat.le_of_ble_eq_true rfl) rfl ?_
    refine T_goto (pc := 19) 3 dX12_need_19 (by decide) ?_
    exact hkb r1.2 (v4 + (1 : Int32))
set_option maxRecDepth 100000 in
set_option maxHeartbeats 4000000 in
theorem fX12_need_P3_T (v1 : Int32) (v2 : Int32) (v3 : Int32) (σ : St) (v4 : Int32) : T kX12_need cSi σ 3 [(0, .ref 10), (1, .int v1), (2, .int v2), (3, .int v3), (4, .int v4)] [] (fX12_need_P3 v1 v2 v3 σ v4) :=
  it_T (S := (fun t : St × Int32 => t.1)) (lv := fun t : St × Int32 => [(0, .ref 10), (1, .int v1), (2, .int v2), (3, .int v3), (4, .int t.2)]) (st := fun _ => []) (fun kb hkb t => fX12_need_L3_T v1 v2 v3 (hkb := fun σ v4 => hkb (σ, v4)) t.1 t.2) FU (σ, v4)
set_option maxRecDepth 100000 in
set_option maxHeartbeats 4000000 in
theorem ctX12_need (σ : St) (p0 : Int32) (p1 : Int32) (p2 : Int32) : Ct yX12_need kX12_need [.ref 10, .int p0, .int p1, .int p2] σ cSi (fX12_need σ p0 p1 p2) := by
  refine Ct.of (by decide +kernel) rfl rfl (Nat.le_of_ble_eq_true rfl) ?_
  unfold fX12_need
  show T _ _ _ 0 [(0, .ref 10), (1, .int p0), (2, .int p1), (3, .int p2)] [] _
  refine T_iconst (pc := 0) (v := 0) dX12_need_0 (by decide) ?_
  refine T_istore (pc := 1) (lv' := [(0, .ref 10), (1, .int p0), (2, .int p1), (3, .int p2), (4, .int (0 : Int32))]) dX12_need_1 (Nat.le_of_ble_eq_true rfl) rfl ?_
  exact fX12_need_P3_T p0 p1 p2 σ (0 : Int32)
set_option maxRecDepth 100000 in
set_option maxHeartbeats 4000000 in
theorem ctX12_cast (σ : St) (p0 : Int32) (p1 : Int32) (p2 : Int32) : Ct yX12_cast kX12_cast [.ref 10, .int p0, .int p1, .int p2] σ cSi (fX12_cast σ p0 p1 p2) := by
  refine Ct.of (by decide +kernel) rfl rfl (Nat.le_of_ble_eq_true rfl) ?_
  unfold fX12_cast
  show T _ _ _ 0 [(0, .ref 10), (1, .int p0), (2, .int p1), (3, .int p2)] [] _
  refine T_aload_n (pc := 0) 0 dX12_cast_0 rfl rfl ?_
  refine T_iconst (pc := 1) (v := 0) dX12_cast_1 (by decide) ?_
  refine T_putI (pc := 2) fd_10_0 hw1503 dX12_cast_2 ?_
  refine T_letS (fun s1 => ?_)
  refine T_aload_n (pc := 5) 0 dX12_cast_5 rfl rfl ?_
  refine T_iload_n (pc := 6) 1 dX12_cast_6 rfl rfl ?_
  refine T_callPz (pc := 7) (rest := []) (Rn_V (pc := 7) (as := [.int p0]) (rest := []) (ctX12_isPlot s1 p0) rfl rfl mv_X12_isPlot hw2056 rfl ⟨Nat.le_of_ble_eq_true rfl, Nat.le_of_ble_eq_true rfl⟩ (Nat.le_of_ble_eq_true rfl) dX12_cast_7 rfl) rfl (fun x2 => ?_)
  refine T_if_eq (pc := 10) 36 dX12_cast_10 (by decide) (fun _ => ?_) (fun _ => ?_)
  · refine T_iconst (pc := 36) (v := -1) dX12_cast_36 (by decide) ?_
    exact T_ireturn (pc := 37) rfl dX12_cast_37 rfl
  · refine T_iload_n (pc := 13) 3 dX12_cast_13 rfl rfl ?_
    refine T_iconst (pc := 14) (v := 0) dX12_cast_14 (by decide) ?_
    refine T_iconst (pc := 15) (v := 3) dX12_cast_15 (by decide) ?_
    refine T_callPz (pc := 16) (rest := []) (Rn_S (pc := 16) (as := [.int p2, .int (0 : Int32), .int (3 : Int32)]) (rest := []) (ctX12_isIn s1 p2 (0 : Int32) (3 : Int32)) ms_X12_isIn hw1689 rfl ⟨Nat.le_of_ble_eq_true rfl, Nat.le_of_ble_eq_true rfl⟩ (Nat.le_of_ble_eq_true rfl) dX12_cast_16 rfl) rfl (fun x3 => ?_)
    refine T_if_eq (pc := 19) 36 dX12_cast_19 (by decide) (fun _ => ?_) (fun _ => ?_)
    · refine T_iconst (pc := 36) (v := -1) dX12_cast_36 (by decide) ?_
      exact T_ireturn (pc := 37) rfl dX12_cast_37 rfl
    · refine T_iload_n (pc := 22) 2 dX12_cast_22 rfl rfl ?_
      refine T_iconst (pc := 23) (v := -1) dX12_cast_23 (by decide) ?_
      refine T_icmp_eq (pc := 24) 38 dX12_cast_24 (by decide) (fun _ => ?_) (fun _ => ?_)
      · refine T_aload_n (pc := 38) 0 dX12_cast_38 rfl rfl ?_
        refine T_iload_n (pc := 39) 1 dX12_cast_39 rfl rfl ?_
        refine T_aload_n (pc := 40) 0 dX12_cast_40 rfl rfl ?_
        refine T_iload_n (pc := 41) 1 dX12_cast_41 rfl rfl ?_
        refine T_callPi (pc := 42) (rest := [.int p0, .ref 10]) (Rn_V (pc := 42) (as := [.int p0]) (rest := [.int p0, .ref 10]) (ctX12_partsOf s1 p0) rfl rfl mv_X12_partsOf hw2060 rfl ⟨Nat.le_of_ble_eq_true rfl, Nat.le_of_ble_eq_true rfl⟩ (Nat.le_of_ble_eq_true rfl) dX12_cast_42 rfl) rfl (fun x4 => ?_)
        refine T_iload_n (pc := 45) 3 dX12_cast_45 rfl rfl ?_
        refine T_callSi (pc := 46) (rest := []) (Rn_V (pc := 46) (as := [.int p0, .int x4, .int p2]) (rest := []) (ctX12_need s1 p0 x4 p2) rfl rfl mv_X12_need hw2083 rfl ⟨Nat.le_of_ble_eq_true rfl, Nat.le_of_ble_eq_true rfl⟩ (Nat.le_of_ble_eq_true rfl) dX12_cast_46 rfl) rfl (fun r5 => ?_)
        refine T_istore (pc := 49) (lv' := [(0, .ref 10), (1, .int p0), (2, .int p1), (3, .int p2), (4, .int r5.1)]) dX12_cast_49 (Nat.le_of_ble_eq_true rfl) rfl ?_
        refine T_iload_n (pc := 51) 2 dX12_cast_51 rfl rfl ?_
        refine T_iconst (pc := 52) (v := -1) dX12_cast_52 (by decide) ?_
        refine T_icmp_ne (pc := 53) 61 dX12_cast_53 (by decide) (fun _ => ?_) (fun _ => ?_)
        · refine T_aload_n (pc := 61) 0 dX12_cast_61 rfl rfl ?_
          refine T_getA (pc := 62) fd_10_51 hw1554 dX12_cast_62 ?_
          refine T_iload_n (pc := 65) 2 dX12_cast_65 rfl rfl ?_
          refine T_iald (pc := 66) rfl dX12_cast_66 (fun x6 => ?_)
          exact T_ireturn (pc := 67) rfl dX12_cast_67 rfl
        · refine T_iload (pc := 56) 4 dX12_cast_56 rfl ?_
          refine T_goto (pc := 58) 67 dX12_cast_58 (by decide) ?_
          exact T_ireturn (pc := 67) rfl dX12_cast_67 rfl
      · refine T_aload_n (pc := 27) 0 dX12_cast_27 rfl rfl ?_
        refine T_iload_n (pc := 28) 1 dX12_cast_28 rfl rfl ?_
        refine T_iload_n (pc := 29) 2 dX12_cast_29 rfl rfl ?_
        refine T_callPz (pc := 30) (rest := []) (Rn_V (pc := 30) (as := [.int p0, .int p1]) (rest := []) (ctX12_isPart s1 p0 p1) rfl rfl mv_X12_isPart hw2068 rfl ⟨Nat.le_of_ble_eq_true rfl, Nat.le_of_ble_eq_true rfl⟩ (Nat.le_of_ble_eq_true rfl) dX12_cast_30 rfl) rfl (fun x7 => ?_)
        refine T_if_ne (pc := 33) 38 dX12_cast_33 (by decide) (fun _ => ?_) (fun _ => ?_)
        · refine T_aload_n (pc := 38) 0 dX12_cast_38 rfl rfl ?_
          refine T_iload_n (pc := 39) 1 dX12_cast_39 rfl rfl ?_
          refine T_aload_n (pc := 40) 0 dX12_cast_40 rfl rfl ?_
          refine T_iload_n (pc := 41) 1 dX12_cast_41 rfl rfl ?_
          refine T_callPi (pc := 42) (rest := [.int p0, .ref 10]) (Rn_V (pc := 42) (as := [.int p0]) (rest := [.int p0, .ref 10]) (ctX12_partsOf s1 p0) rfl rfl mv_X12_partsOf hw2060 rfl ⟨Nat.le_of_ble_eq_true rfl, Nat.le_of_ble_eq_true rfl⟩ (Nat.le_of_ble_eq_true rfl) dX12_cast_42 rfl) rfl (fun x8 => ?_)
          refine T_iload_n (pc := 45) 3 dX12_cast_45 rfl rfl ?_
          refine T_callSi (pc := 46) (rest := []) (Rn_V (pc := 46) (as := [.int p0, .int x8, .int p2]) (rest := []) (ctX12_need s1 p0 x8 p2) rfl rfl mv_X12_need hw2083 rfl ⟨Nat.le_of_ble_eq_true rfl, Nat.le_of_ble_eq_true rfl⟩ (Nat.le_of_ble_eq_true rfl) dX12_cast_46 rfl) rfl (fun r9 => ?_)
          refine T_istore (pc := 49) (lv' := [(0, .ref 10), (1, .int p0), (2, .int p1), (3, .int p2), (4, .int r9.1)]) dX12_cast_49 (Nat.le_of_ble_eq_true rfl) rfl ?_
          refine T_iload_n (pc := 51) 2 dX12_cast_51 rfl rfl ?_
          refine T_iconst (pc := 52) (v := -1) dX12_cast_52 (by decide) ?_
          refine T_icmp_ne (pc := 53) 61 dX12_cast_53 (by decide) (fun _ => ?_) (fun _ => ?_)
          · refine T_aload_n (pc := 61) 0 dX12_cast_61 rfl rfl ?_
            refine T_getA (pc := 62) fd_10_51 hw1554 dX12_cast_62 ?_
            refine T_iload_n (pc := 65) 2 dX12_cast_65 rfl rfl ?_
            refine T_iald (pc := 66) rfl dX12_cast_66 (fun x10 => ?_)
            exact T_ireturn (pc := 67) rfl dX12_cast_67 rfl
          · refine T_iload (pc := 56) 4 dX12_cast_56 rfl ?_
            refine T_goto (pc := 58) 67 dX12_cast_58 (by decide) ?_
            exact T_ireturn (pc := 67) rfl dX12_cast_67 rfl
        · refine T_iconst (pc := 36) (v := -1) dX12_cast_36 (by decide) ?_
          exact T_ireturn (pc := 37) rfl dX12_cast_37 rfl
set_option maxRecDepth 100000 in
set_option maxHeartbeats 4000000 in
theorem ctJ0_coder_7d493_200 (σ : St) : Ct yJ0_coder_7d493 kJ0_coder_7d493_200 [.ref 200] σ (cPi σ) (fJ0_coder_7d493_200) := by
  refine Ct.ofJ (by decide +kernel) rfl rfl (Nat.le_of_ble_eq_true rfl) ?_
  unfold fJ0_coder_7d493_200
  show T _ _ _ 0 [(0, .ref 200)] [] _
  refine T_getsCS (pc := 0) hw1754 dJ0_coder_7d493_0 ?_
  refine T_if_eq (pc := 3) 13 dJ0_coder_7d493_3 (by decide) (fun _ => ?_) (fun _ => ?_)
  · refine T_iconst (pc := 13) (v := 1) dJ0_coder_7d493_13 (by decide) ?_
    exact T_nret (pc := 14) .byte rfl dJ0_coder_7d493_14 rfl rfl
  · refine T_aload_n (pc := 6) 0 dJ0_coder_7d493_6 rfl rfl ?_
    refine T_getSc (pc := 7) 0 (by decide) hw2151 dJ0_coder_7d493_7 ?_
    refine T_goto (pc := 10) 14 dJ0_coder_7d493_10 (by decide) ?_
    exact T_nret (pc := 14) .byte rfl dJ0_coder_7d493_14 rfl rfl
set_option maxRecDepth 100000 in
set_option maxHeartbeats 4000000 in
theorem ctJ0_length_8abf5_200 (σ : St) : Ct yJ0_length_8abf5 kJ0_length_8abf5_200 [.ref 200] σ (cPi σ) (fJ0_length_8abf5_200) := by
  refine Ct.ofJ (by decide +kernel) rfl rfl (Nat.le_of_ble_eq_true rfl) ?_
  unfold fJ0_length_8abf5_200
  show T _ _ _ 0 [(0, .ref 200)] [] _
  refine T_aload_n (pc := 0) 0 dJ0_length_8abf5_0 rfl rfl ?_
  refine T_getSv (pc := 1) 0 (by decide) hw2150 dJ0_length_8abf5_1 ?_
  refine T_slenS (pc := 4) (v := 1) 0 (by decide) (by decide) dJ0_length_8abf5_4 ?_
  refine T_aload_n (pc := 5) 0 dJ0_length_8abf5_5 rfl rfl ?_
  refine T_callPi (pc := 6) (rest := [.int (1 : Int32)]) (Rn_VS (pc := 6) (as := []) (rest := [.int (1 : Int32)]) 0 (by decide) (ctJ0_coder_7d493_200 σ) rfl mv_J0_coder_7d493 hw1750 rfl ⟨Nat.le_of_ble_eq_true rfl, Nat.le_of_ble_eq_true rfl⟩ (Nat.le_of_ble_eq_true rfl) dJ0_length_8abf5_6 rfl) rfl (fun x1 => ?_)
  refine T_ishr (pc := 9) dJ0_length_8abf5_9 ?_
  exact T_ireturn (pc := 10) rfl dJ0_length_8abf5_10 rfl
set_option maxRecDepth 100000 in
set_option maxHeartbeats 4000000 in
theorem ctJ0_isLatin1_aae02_200 (σ : St) : Ct yJ0_isLatin1_aae02 kJ0_isLatin1_aae02_200 [.ref 200] σ (cPz σ) (fJ0_isLatin1_aae02_200) := by
  refine Ct.ofJ (by decide +kernel) rfl rfl (Nat.le_of_ble_eq_true rfl) ?_
  unfold fJ0_isLatin1_aae02_200
  show T _ _ _ 0 [(0, .ref 200)] [] _
  refine T_getsCS (pc := 0) hw1754 dJ0_isLatin1_aae02_0 ?_
  refine T_if_eq (pc := 3) 17 dJ0_isLatin1_aae02_3 (by decide) (fun _ => ?_) (fun _ => ?_)
  · refine T_iconst (pc := 17) (v := 0) dJ0_isLatin1_aae02_17 (by decide) ?_
    exact T_zreturn (pc := 18) false rfl dJ0_isLatin1_aae02_18 rfl rfl
  · refine T_aload_n (pc := 6) 0 dJ0_isLatin1_aae02_6 rfl rfl ?_
    refine T_getSc (pc := 7) 0 (by decide) hw2151 dJ0_isLatin1_aae02_7 ?_
    refine T_if_ne (pc := 10) 17 dJ0_isLatin1_aae02_10 (by decide) (fun _ => ?_) (fun _ => ?_)
    · refine T_iconst (pc := 17) (v := 0) dJ0_isLatin1_aae02_17 (by decide) ?_
      exact T_zreturn (pc := 18) false rfl dJ0_isLatin1_aae02_18 rfl rfl
    · refine T_iconst (pc := 13) (v := 1) dJ0_isLatin1_aae02_13 (by decide) ?_
      refine T_goto (pc := 14) 18 dJ0_isLatin1_aae02_14 (by decide) ?_
      exact T_zreturn (pc := 18) true rfl dJ0_isLatin1_aae02_18 rfl rfl
set_option maxRecDepth 100000 in
set_option maxHeartbeats 4000000 in
theorem ctJ1_charAt_3b067_210 (σ : St) (p1 : Int32) : Ct yJ1_charAt_3b067 kJ1_charAt_3b067_210 [.ref 210, .int p1] σ (cPi σ) (fJ1_charAt_3b067_210 p1) := by
  refine Ct.ofJ (by decide +kernel) rfl rfl (Nat.le_of_ble_eq_true rfl) ?_
  unfold fJ1_charAt_3b067_210
  show T _ _ _ 0 [(0, .ref 210), (1, .int p1)] [] _
  refine T_iload_n (pc := 0) 1 dJ1_charAt_3b067_0 rfl rfl ?_
  refine T_aload_n (pc := 1) 0 dJ1_charAt_3b067_1 rfl rfl ?_
  refine T_slenS (pc := 2) (v := 1) 0 (by decide) (by decide) dJ1_charAt_3b067_2 ?_
  refine T_callPv (pc := 3) (rest := []) (Rn_S (pc := 3) (as := [.int p1, .int (1 : Int32)]) (rest := []) (ctJ0_checkIndex_df160 σ p1 (1 : Int32)) ms_J0_checkIndex_df160 hw1767 rfl ⟨Nat.le_of_ble_eq_true rfl, Nat.le_of_ble_eq_true rfl⟩ (Nat.le_of_ble_eq_true rfl) dJ1_charAt_3b067_3 rfl) rfl (fun u1 => ?_)
  refine T_aload_n (pc := 6) 0 dJ1_charAt_3b067_6 rfl rfl ?_
  refine T_iload_n (pc := 7) 1 dJ1_charAt_3b067_7 rfl rfl ?_
  refine T_baldS (pc := 8) 0 (by decide) dJ1_charAt_3b067_8 (fun x2 => ?_)
  refine T_sipush (pc := 9) (v := 255) dJ1_charAt_3b067_9 (by decide) ?_
  refine T_iand (pc := 12) dJ1_charAt_3b067_12 ?_
  refine T_i2c (pc := 13) dJ1_charAt_3b067_13 ?_
  exact T_nret (pc := 14) .char rfl dJ1_charAt_3b067_14 (pk_nc _) rfl
set_option maxRecDepth 100000 in
set_option maxHeartbeats 4000000 in
theorem ctJ0_charAt_5068e_200 (σ : St) (p0 : Int32) : Ct yJ0_charAt_5068e kJ0_charAt_5068e_200 [.ref 200, .int p0] σ (cPi σ) (fJ0_charAt_5068e_200 p0) := by
  refine Ct.ofJ (by decide +kernel) rfl rfl (Nat.le_of_ble_eq_true rfl) ?_
  unfold fJ0_charAt_5068e_200
  show T _ _ _ 0 [(0, .ref 200), (1, .int p0)] [] _
  refine T_aload_n (pc := 0) 0 dJ0_charAt_5068e_0 rfl rfl ?_
  refine T_callPz (pc := 1) (rest := []) (Rn_VS (pc := 1) (as := []) (rest := []) 0 (by decide) (ctJ0_isLatin1_aae02_200 σ) rfl mv_J0_isLatin1_aae02 hw1760 rfl ⟨Nat.le_of_ble_eq_true rfl, Nat.le_of_ble_eq_true rfl⟩ (Nat.le_of_ble_eq_true rfl) dJ0_charAt_5068e_1 rfl) rfl (fun x1 => ?_)
  refine T_if_eq (pc := 4) 16 dJ0_charAt_5068e_4 (by decide) (fun _ => ?_) (fun _ => ?_)
  · refine T_aload_n (pc := 16) 0 dJ0_charAt_5068e_16 rfl rfl ?_
    refine T_getSv (pc := 17) 0 (by decide) hw2150 dJ0_charAt_5068e_17 ?_
    refine T_iload_n (pc := 20) 1 dJ0_charAt_5068e_20 rfl rfl ?_
    exact T_none
  · refine T_aload_n (pc := 7) 0 dJ0_charAt_5068e_7 rfl rfl ?_
    refine T_getSv (pc := 8) 0 (by decide) hw2150 dJ0_charAt_5068e_8 ?_
    refine T_iload_n (pc := 11) 1 dJ0_charAt_5068e_11 rfl rfl ?_
    refine T_callPi (pc := 12) (rest := []) (Rn_S (pc := 12) (as := [.ref 210, .int p0]) (rest := []) (ctJ1_charAt_3b067_210 σ p0) ms_J1_charAt_3b067 hw1764 rfl ⟨Nat.le_of_ble_eq_true rfl, Nat.le_of_ble_eq_true rfl⟩ (Nat.le_of_ble_eq_true rfl) dJ0_charAt_5068e_12 rfl) rfl (fun x2 => ?_)
    exact T_creturn (pc := 15) rfl dJ0_charAt_5068e_15
set_option maxRecDepth 100000 in
set_option maxHeartbeats 4000000 in
theorem fX12_isAmong_200_L2_T (v1 : Int32) (σ : St) {kb : Int32 → Option Bool} (hkb : ∀ (w2 : Int32), T kX12_isAmong_200 (cPz σ) σ 2 [(0, .ref 200), (1, .int v1), (2, .int w2)] [] (kb w2)) (v2 : Int32) : T kX12_isAmong_200 (cPz σ) σ 2 [(0, .ref 200), (1, .int v1), (2, .int v2)] [] (fX12_isAmong_200_L2 v1 kb v2) := by
  unfold fX12_isAmong_200_L2
  refine T_iload_n (pc := 2) 2 dX12_isAmong_2 rfl rfl ?_
  refine T_aload_n (pc := 3) 0 dX12_isAmong_3 rfl rfl ?_
  refine T_callPi (pc := 4) (rest := [.int v2]) (Rn_VS (pc := 4) (as := []) (rest := [.int v2]) 0 (by decide) (ctJ0_length_8abf5_200 σ) rfl mv_J0_length_8abf5 hw1746 rfl ⟨Nat.le_of_ble_eq_true rfl, Nat.le_of_ble_eq_true rfl⟩ (Nat.le_of_ble_eq_true rfl) dX12_isAmong_4 rfl) rfl (fun x1 => ?_)
  refine T_icmp_ge (pc := 7) 27 dX12_isAmong_7 (by decide) (fun _ => ?_) (fun _ => ?_)
  · refine T_iconst (pc := 27) (v := 0) dX12_isAmong_27 (by decide) ?_
    exact T_zreturn (pc := 28) false rfl dX12_isAmong_28 rfl rfl
  · refine T_aload_n (pc := 10) 0 dX12_isAmong_10 rfl rfl ?_
    refine T_iload_n (pc := 11) 2 dX12_isAmong_11 rfl rfl ?_
    refine T_callPi (pc := 12) (rest := []) (Rn_VS (pc := 12) (as := [.int v2]) (rest := []) 0 (by decide) (ctJ0_charAt_5068e_200 σ v2) rfl mv_J0_charAt_5068e hw1756 rfl ⟨Nat.le_of_ble_eq_true rfl, Nat.le_of_ble_eq_true rfl⟩ (Nat.le_of_ble_eq_true rfl) dX12_isAmong_12 rfl) rfl (fun x2 => ?_)
    refine T_iload_n (pc := 15) 1 dX12_isAmong_15 rfl rfl ?_
    refine T_icmp_ne (pc := 16) 21 dX12_isAmong_16 (by decide) (fun _ => ?_) (fun _ => ?_)
    · refine T_iinc (pc := 21) (y := 1) (lv' := [(0, .ref 200), (1, .int v1), (2, .int (v2 + (1 : Int32)))]) 2 dX12_isAmong_21 (by decide) rfl (Nat.le_of_ble_eq_true rfl) rfl ?_
      refine T_goto (pc := 24) 2 dX12_isAmong_24 (by decide) ?_
      exact hkb (v2 + (1 : Int32))
    · refine T_iconst (pc := 19) (v := 1) dX12_isAmong_19 (by decide) ?_
      exact T_zreturn (pc := 20) true rfl dX12_isAmong_20 rfl rfl
set_option maxRecDepth 100000 in
set_option maxHeartbeats 4000000 in
theorem fX12_isAmong_200_P2_T (v1 : Int32) (σ : St) (v2 : Int32) : T kX12_isAmong_200 (cPz σ) σ 2 [(0, .ref 200), (1, .int v1), (2, .int v2)] [] (fX12_isAmong_200_P2 v1 v2) :=
  it_T (S := (fun _ : Int32 => σ)) (lv := fun t : Int32 => [(0, .ref 200), (1, .int v1), (2, .int t)]) (st := fun _ => []) (fun kb hkb t => fX12_isAmong_200_L2_T v1 (hkb := fun v2 => hkb v2) σ t) FU v2
set_option maxRecDepth 100000 in
set_option maxHeartbeats 4000000 in
theorem ctX12_isAmong_200 (σ : St) (p1 : Int32) : Ct yX12_isAmong kX12_isAmong_200 [.ref 200, .int p1] σ (cPz σ) (fX12_isAmong_200 p1) := by
  refine Ct.of (by decide +kernel) rfl rfl (Nat.le_of_ble_eq_true rfl) ?_
  unfold fX12_isAmong_200
  show T _ _ _ 0 [(0, .ref 200), (1, .int p1)] [] _
  refine T_iconst (pc := 0) (v := 0) dX12_isAmong_0 (by decide) ?_
  refine T_istore_n (pc := 1) (lv' := [(0, .ref 200), (1, .int p1), (2, .int (0 : Int32))]) dX12_isAmong_1 rfl (Nat.le_of_ble_eq_true rfl) rfl ?_
  exact fX12_isAmong_200_P2_T p1 σ (0 : Int32)
set_option maxRecDepth 100000 in
set_option maxHeartbeats 4000000 in
theorem ctX12_isSign (σ : St) (p0 : Int32) : Ct yX12_isSign kX12_isSign [.int p0] σ (cPz σ) (fX12_isSign p0) := by
  refine Ct.of (by decide +kernel) rfl rfl (Nat.le_of_ble_eq_true rfl) ?_
  unfold fX12_isSign
  show T _ _ _ 0 [(0, .int p0)] [] _
  refine T_iload_n (pc := 0) 0 dX12_isSign_0 rfl rfl ?_
  refine T_bipush (pc := 1) (v := 61) dX12_isSign_1 (by decide) ?_
  refine T_icmp_eq (pc := 3) 18 dX12_isSign_3 (by decide) (fun _ => ?_) (fun _ => ?_)
  · refine T_iconst (pc := 18) (v := 1) dX12_isSign_18 (by decide) ?_
    refine T_goto (pc := 19) 23 dX12_isSign_19 (by decide) ?_
    exact T_zreturn (pc := 23) true rfl dX12_isSign_23 rfl rfl
  · refine T_iload_n (pc := 6) 0 dX12_isSign_6 rfl rfl ?_
    refine T_bipush (pc := 7) (v := 60) dX12_isSign_7 (by decide) ?_
    refine T_icmp_eq (pc := 9) 18 dX12_isSign_9 (by decide) (fun _ => ?_) (fun _ => ?_)
    · refine T_iconst (pc := 18) (v := 1) dX12_isSign_18 (by decide) ?_
      refine T_goto (pc := 19) 23 dX12_isSign_19 (by decide) ?_
      exact T_zreturn (pc := 23) true rfl dX12_isSign_23 rfl rfl
    · refine T_iload_n (pc := 12) 0 dX12_isSign_12 rfl rfl ?_
      refine T_bipush (pc := 13) (v := 62) dX12_isSign_13 (by decide) ?_
      refine T_icmp_ne (pc := 15) 22 dX12_isSign_15 (by decide) (fun _ => ?_) (fun _ => ?_)
      · refine T_iconst (pc := 22) (v := 0) dX12_isSign_22 (by decide) ?_
        exact T_zreturn (pc := 23) false rfl dX12_isSign_23 rfl rfl
      · refine T_iconst (pc := 18) (v := 1) dX12_isSign_18 (by decide) ?_
        refine T_goto (pc := 19) 23 dX12_isSign_19 (by decide) ?_
        exact T_zreturn (pc := 23) true rfl dX12_isSign_23 rfl rfl
set_option maxRecDepth 100000 in
set_option maxHeartbeats 4000000 in
theorem fX12_compares_J12_T (σ : St) (t0 : Int32) : T kX12_compares cSz σ 12 [(0, .ref 10)] [.int t0] (fX12_compares_J12 σ t0) := by
  unfold fX12_compares_J12
  refine T_istore_n (pc := 12) (lv' := [(0, .ref 10), (3, .int t0)]) dX12_compares_12 rfl (Nat.le_of_ble_eq_true rfl) rfl ?_
  refine T_aload_n (pc := 13) 0 dX12_compares_13 rfl rfl ?_
  refine T_getI (pc := 14) fd_10_14 hw1517 dX12_compares_14 ?_
  refine T_iconst (pc := 17) (v := -1) dX12_compares_17 (by decide) ?_
  refine T_icmp_eq (pc := 18) 23 dX12_compares_18 (by decide) (fun _ => ?_) (fun _ => ?_)
  · refine T_aload_n (pc := 23) 0 dX12_compares_23 rfl rfl ?_
    refine T_callSi (pc := 24) (rest := []) (Rn_V (pc := 24) (as := []) (rest := []) (ctX12_look σ) rfl rfl mv_X12_look hw1704 rfl ⟨Nat.le_of_ble_eq_true rfl, Nat.le_of_ble_eq_true rfl⟩ (Nat.le_of_ble_eq_true rfl) dX12_compares_24 rfl) rfl (fun r2 => ?_)
    refine T_istore (pc := 27) (lv' := [(0, .ref 10), (3, .int t0), (4, .int r2.1)]) dX12_compares_27 (Nat.le_of_ble_eq_true rfl) rfl ?_
    refine T_iload (pc := 29) 2 dX12_compares_29 rfl ?_
    refine T_callPz (pc := 31) (rest := []) (Rn_S (pc := 31) (as := [.int r2.1]) (rest := []) (ctX12_isSign r2.2 r2.1) ms_X12_isSign hw1833 rfl ⟨Nat.le_of_ble_eq_true rfl, Nat.le_of_ble_eq_true rfl⟩ (Nat.le_of_ble_eq_true rfl) dX12_compares_31 rfl) rfl (fun x3 => ?_)
    refine T_if_ne (pc := 34) 42 dX12_compares_34 (by decide) (fun _ => ?_) (fun _ => ?_)
    · refine T_aload_n (pc := 42) 0 dX12_compares_42 rfl rfl ?_
      refine T_dup_a (pc := 43) dX12_compares_43 ?_
      refine T_getI (pc := 44) fd_10_13 hw1516 dX12_compares_44 ?_
      refine T_iconst (pc := 47) (v := 1) dX12_compares_47 (by decide) ?_
      refine T_iadd (pc := 48) dX12_compares_48 ?_
      refine T_putI (pc := 49) fd_10_13 hw1516 dX12_compares_49 ?_
      refine T_letS (fun s4 => ?_)
      refine T_aload_n (pc := 52) 0 dX12_compares_52 rfl rfl ?_
      refine T_callSi (pc := 53) (rest := []) (Rn_V (pc := 53) (as := []) (rest := []) (ctX12_sum 8 s4) rfl rfl mv_X12_sum hw1806 rfl ⟨Nat.le_of_ble_eq_true rfl, Nat.le_of_ble_eq_true rfl⟩ (Nat.le_of_ble_eq_true rfl) dX12_compares_53 rfl) rfl (fun r5 => ?_)
      refine T_istore (pc := 56) (lv' := [(0, .ref 10), (3, .int t0), (4, .int r2.1), (5, .int r5.1)]) dX12_compares_56 (Nat.le_of_ble_eq_true rfl) rfl ?_
      refine T_iload (pc := 58) 2 dX12_compares_58 rfl ?_
      refine T_bipush (pc := 60) (v := 61) dX12_compares_60 (by decide) ?_
      refine T_icmp_ne (pc := 62) 79 dX12_compares_62 (by decide) (fun _ => ?_) (fun _ => ?_)
      · refine T_iload (pc := 79) 2 dX12_compares_79 rfl ?_
        refine T_bipush (pc := 81) (v := 60) dX12_compares_81 (by decide) ?_
        refine T_icmp_ne (pc := 83) 100 dX12_compares_83 (by decide) (fun _ => ?_) (fun _ => ?_)
        · refine T_iload_n (pc := 100) 1 dX12_compares_100 rfl rfl ?_
          refine T_iload (pc := 101) 3 dX12_compares_101 rfl ?_
          refine T_icmp_le (pc := 103) 110 dX12_compares_103 (by decide) (fun _ => ?_) (fun _ => ?_)
          · refine T_iconst (pc := 110) (v := 0) dX12_compares_110 (by decide) ?_
            exact T_zreturn (pc := 111) false rfl dX12_compares_111 rfl rfl
          · refine T_iconst (pc := 106) (v := 1) dX12_compares_106 (by decide) ?_
            refine T_goto (pc := 107) 111 dX12_compares_107 (by decide) ?_
            exact T_zreturn (pc := 111) true rfl dX12_compares_111 rfl rfl
        · refine T_iload_n (pc := 86) 1 dX12_compares_86 rfl rfl ?_
          refine T_iload (pc := 87) 3 dX12_compares_87 rfl ?_
          refine T_icmp_ge (pc := 89) 96 dX12_compares_89 (by decide) (fun _ => ?_) (fun _ => ?_)
          · refine T_iconst (pc := 96) (v := 0) dX12_compares_96 (by decide) ?_
            refine T_goto (pc := 97) 111 dX12_compares_97 (by decide) ?_
            exact T_zreturn (pc := 111) false rfl dX12_compares_111 rfl rfl
          · refine T_iconst (pc := 92) (v := 1) dX12_compares_92 (by decide) ?_
            refine T_goto (pc := 93) 111 dX12_compares_93 (by decide) ?_
            exact T_zreturn (pc := 111) true rfl dX12_compares_111 rfl rfl
      · refine T_iload_n (pc := 65) 1 dX12_compares_65 rfl rfl ?_
        refine T_iload (pc := 66) 3 dX12_compares_66 rfl ?_
        refine T_icmp_ne (pc := 68) 75 dX12_compares_68 (by decide) (fun _ => ?_) (fun _ => ?_)
        · refine T_iconst (pc := 75) (v := 0) dX12_compares_75 (by decide) ?_
          refine T_goto (pc := 76) 111 dX12_compares_76 (by decide) ?_
          exact T_zreturn (pc := 111) false rfl dX12_compares_111 rfl rfl
        · refine T_iconst (pc := 71) (v := 1) dX12_compares_71 (by decide) ?_
          refine T_goto (pc := 72) 111 dX12_compares_72 (by decide) ?_
          exact T_zreturn (pc := 111) true rfl dX12_compares_111 rfl rfl
    · refine T_aload_n (pc := 37) 0 dX12_compares_37 rfl rfl ?_
      refine T_callSz (pc := 38) (rest := []) (Rn_V (pc := 38) (as := []) (rest := []) (ctX12_fails r2.2) rfl rfl mv_X12_fails hw1708 rfl ⟨Nat.le_of_ble_eq_true rfl, Nat.le_of_ble_eq_true rfl⟩ (Nat.le_of_ble_eq_true rfl) dX12_compares_38 rfl) rfl (fun r6 => ?_)
      exact T_zreturn (pc := 41) r6.1 rfl dX12_compares_41 rfl rfl
  · refine T_iconst (pc := 21) (v := 0) dX12_compares_21 (by decide) ?_
    exact T_zreturn (pc := 22) false rfl dX12_compares_22 rfl rfl
set_option maxRecDepth 100000 in
set_option maxHeartbeats 4000000 in
theorem ctX12_compares (σ : St) (p0 : Int32) (p1 : Int32) : Ct yX12_compares kX12_compares [.ref 10, .int p0, .int p1] σ cSz (fX12_compares σ p0 p1) := by
  refine Ct.of (by decide +kernel) rfl rfl (Nat.le_of_ble_eq_true rfl) ?_
  unfold fX12_compares
  show T _ _ _ 0 [(0, .ref 10), (1, .int p0), (2, .int p1)] [] _
  refine T_iload_n (pc := 0) 1 dX12_compares_0 rfl rfl ?_
  refine T_if_eq (pc := 1) 8 dX12_compares_1 (by decide) (fun _ => ?_) (fun _ => ?_)
  · refine T_aload_n (pc := 8) 0 dX12_compares_8 rfl rfl ?_
    refine T_callSi (pc := 9) (rest := []) (Rn_V (pc := 9) (as := []) (rest := []) (ctX12_sum 8 σ) rfl rfl mv_X12_sum hw1806 rfl ⟨Nat.le_of_ble_eq_true rfl, Nat.le_of_ble_eq_true rfl⟩ (Nat.le_of_ble_eq_true rfl) dX12_compares_9 rfl) rfl (fun r1 => ?_)
    refine T_pick (lv' := [(0, .ref 10)]) [0] rfl ?_
    exact fX12_compares_J12_T r1.2 r1.1
  · refine T_iload_n (pc := 4) 2 dX12_compares_4 rfl rfl ?_
    refine T_goto (pc := 5) 12 dX12_compares_5 (by decide) ?_
    refine T_pick (lv' := [(0, .ref 10)]) [0] rfl ?_
    exact fX12_compares_J12_T σ p1
set_option maxRecDepth 100000 in
set_option maxHeartbeats 4000000 in
theorem fX12_part_L18_T (d : Nat) (rec : St → Option (Bool × St)) (hrec : ∀ (σ : St), Ct yX12_unit (kX12_unit d) [.ref 10] σ cSz (rec σ)) (σ : St) {kb : St → Int32 → Option (Bool × St)} (hkb : ∀ (σ' : St) (w3 : Int32), T (kX12_part d) cSz σ' 18 [(0, .ref 10), (3, .int w3)] [] (kb σ' w3)) (v3 : Int32) : T (kX12_part d) cSz σ 18 [(0, .ref 10), (3, .int v3)] [] (fX12_part_L18 rec kb σ v3) := by
  unfold fX12_part_L18
  refine T_aload_n (pc := 18) 0 dX12_part_18 rfl rfl ?_
  refine T_getI (pc := 19) fd_10_14 hw1517 dX12_part_19 ?_
  refine T_iconst (pc := 22) (v := -1) dX12_part_22 (by decide) ?_
  refine T_icmp_ne (pc := 23) 69 dX12_part_23 (by decide) (fun _ => ?_) (fun _ => ?_)
  · refine T_iload_n (pc := 69) 1 dX12_part_69 rfl rfl ?_
    exact T_zretS (pc := 70) rfl dX12_part_70
  · refine T_aload_n (pc := 26) 0 dX12_part_26 rfl rfl ?_
    refine T_callSi (pc := 27) (rest := []) (Rn_V (pc := 27) (as := []) (rest := []) (ctX12_look σ) rfl rfl mv_X12_look hw1704 rfl ⟨by simp only [kX12_look, kX12_part]; omega, by simp only [kX12_look, kX12_part]; omega⟩ (Nat.le_of_ble_eq_true rfl) dX12_part_27 rfl) rfl (fun r2 => ?_)
    refine T_bipush (pc := 30) (v := 38) dX12_part_30 (by decide) ?_
    refine T_icmp_ne (pc := 32) 69 dX12_part_32 (by decide) (fun _ => ?_) (fun _ => ?_)
    · refine T_iload_n (pc := 69) 1 dX12_part_69 rfl rfl ?_
      exact T_zretS (pc := 70) rfl dX12_part_70
    · refine T_aload_n (pc := 35) 0 dX12_part_35 rfl rfl ?_
      refine T_dup_a (pc := 36) dX12_part_36 ?_
      refine T_getI (pc := 37) fd_10_13 hw1516 dX12_part_37 ?_
      refine T_iconst (pc := 40) (v := 1) dX12_part_40 (by decide) ?_
      refine T_iadd (pc := 41) dX12_part_41 ?_
      refine T_putI (pc := 42) fd_10_13 hw1516 dX12_part_42 ?_
      refine T_letS (fun s3 => ?_)
      refine T_aload_n (pc := 45) 0 dX12_part_45 rfl rfl ?_
      refine T_callSz (pc := 46) (rest := []) (Rn_V (pc := 46) (as := []) (rest := []) (hrec s3) rfl rfl mv_X12_unit hw1836 rfl ⟨by simp only [kX12_unit, kX12_part]; omega, by simp only [kX12_unit, kX12_part]; omega⟩ (Nat.le_of_ble_eq_true rfl) dX12_part_46 rfl) rfl (fun r4 => ?_)
      refine T_istore (pc := 49) (lv' := [(0, .ref 10), (3, .int v3), (4, .int (bi r4.1))]) dX12_part_49 (Nat.le_of_ble_eq_true rfl) rfl ?_
      refine T_iload_n (pc := 51) 1 dX12_part_51 rfl rfl ?_
      refine T_if_eq (pc := 52) 64 dX12_part_52 (by decide) (fun _ => ?_) (fun _ => ?_)
      · refine T_iconst (pc := 64) (v := 0) dX12_part_64 (by decide) ?_
        refine T_istore_n (pc := 65) (lv' := [(0, .ref 10), (3, .int (0 : Int32)), (4, .int (bi r4.1))]) dX12_part_65 rfl (Nat.le_of_ble_eq_true rfl) rfl ?_
        refine T_goto (pc := 66) 18 dX12_part_66 (by decide) ?_
        refine T_pick (lv' := [(0, .ref 10), (3, .int (0 : Int32))]) [0, 1] rfl ?_
        exact hkb r4.2 (0 : Int32)
      · refine T_iload (pc := 55) 2 dX12_part_55 rfl ?_
        refine T_if_eq (pc := 57) 64 dX12_part_57 (by decide) (fun _ => ?_) (fun _ => ?_)
        · refine T_iconst (pc := 64) (v := 0) dX12_part_64 (by decide) ?_
          refine T_istore_n (pc := 65) (lv' := [(0, .ref 10), (3, .int (0 : Int32)), (4, .int (bi r4.1))]) dX12_part_65 rfl (Nat.le_of_ble_eq_true rfl) rfl ?_
          refine T_goto (pc := 66) 18 dX12_part_66 (by decide) ?_
          refine T_pick (lv' := [(0, .ref 10), (3, .int (0 : Int32))]) [0, 1] rfl ?_
          exact hkb r4.2 (0 : Int32)
        · refine T_iconst (pc := 60) (v := 1) dX12_part_60 (by decide) ?_
          refine T_goto (pc := 61) 65 dX12_part_61 (by decide) ?_
          refine T_istore_n (pc := 65) (lv' := [(0, .ref 10), (3, .int (1 : Int32)), (4, .int (bi r4.1))]) dX12_part_65 rfl (Nat.le_of_ble_eq_true rfl) rfl ?_
          refine T_goto (pc := 66) 18 dX12_part_66 (by decide) ?_
          refine T_pick (lv' := [(0, .ref 10), (3, .int (1 : Int32))]) [0, 1] rfl ?_
          exact hkb r4.2 (1 : Int32)
set_option maxRecDepth 100000 in
set_option maxHeartbeats 4000000 in
theorem fX12_part_P18_T (d : Nat) (rec : St → Option (Bool × St)) (hrec : ∀ (σ : St), Ct yX12_unit (kX12_unit d) [.ref 10] σ cSz (rec σ)) (σ : St) (v3 : Int32) : T (kX12_part d) cSz σ 18 [(0, .ref 10), (3, .int v3)] [] (fX12_part_P18 rec σ v3) :=
  it_T (S := (fun t : St × Int32 => t.1)) (lv := fun t : St × Int32 => [(0, .ref 10), (3, .int t.2)]) (st := fun _ => []) (fun kb hkb t => fX12_part_L18_T d rec hrec (hkb := fun σ v3 => hkb (σ, v3)) t.1 t.2) FU (σ, v3)
set_option maxRecDepth 100000 in
set_option maxHeartbeats 4000000 in
theorem ctX12_part_B (d : Nat) (rec : St → Option (Bool × St)) (hrec : ∀ (σ : St), Ct yX12_unit (kX12_unit d) [.ref 10] σ cSz (rec σ)) (σ : St) (p0 : Int32) (p1 : Int32) : Ct yX12_part (kX12_part d) [.ref 10, .int p0, .int p1] σ cSz (fX12_part_B rec σ p0 p1) := by
  refine Ct.of (by decide +kernel) rfl rfl (Nat.le_of_ble_eq_true rfl) ?_
  unfold fX12_part_B
  show T _ _ _ 0 [(0, .ref 10), (1, .int p0), (2, .int p1)] [] _
  refine T_iload_n (pc := 0) 1 dX12_part_0 rfl rfl ?_
  refine T_if_eq (pc := 1) 13 dX12_part_1 (by decide) (fun _ => ?_) (fun _ => ?_)
  · refine T_aload_n (pc := 13) 0 dX12_part_13 rfl rfl ?_
    refine T_callSz (pc := 14) (rest := []) (Rn_V (pc := 14) (as := []) (rest := []) (hrec σ) rfl rfl mv_X12_unit hw1836 rfl ⟨by simp only [kX12_unit, kX12_part]; omega, by simp only [kX12_unit, kX12_part]; omega⟩ (Nat.le_of_ble_eq_true rfl) dX12_part_14 rfl) rfl (fun r1 => ?_)
    refine T_istore_n (pc := 17) (lv' := [(0, .ref 10), (1, .int p0), (2, .int p1), (3, .int (bi r1.1))]) dX12_part_17 rfl (Nat.le_of_ble_eq_true rfl) rfl ?_
    refine T_pick (lv' := [(0, .ref 10), (3, .int (bi r1.1))]) [0, 3] rfl ?_
    exact fX12_part_P18_T d rec hrec r1.2 (bi r1.1)
  · refine T_aload_n (pc := 4) 0 dX12_part_4 rfl rfl ?_
    refine T_iconst (pc := 5) (v := 1) dX12_part_5 (by decide) ?_
    refine T_iload_n (pc := 6) 2 dX12_part_6 rfl rfl ?_
    refine T_callSz (pc := 7) (rest := []) (Rn_V (pc := 7) (as := [.int (1 : Int32), .int p1]) (rest := []) (ctX12_compares σ (1 : Int32) p1) rfl rfl mv_X12_compares hw1802 rfl ⟨by simp only [kX12_compares, kX12_part]; omega, by simp only [kX12_compares, kX12_part]; omega⟩ (Nat.le_of_ble_eq_true rfl) dX12_part_7 rfl) rfl (fun r5 => ?_)
    refine T_goto (pc := 10) 17 dX12_part_10 (by decide) ?_
    refine T_istore_n (pc := 17) (lv' := [(0, .ref 10), (1, .int p0), (2, .int p1), (3, .int (bi r5.1))]) dX12_part_17 rfl (Nat.le_of_ble_eq_true rfl) rfl ?_
    refine T_pick (lv' := [(0, .ref 10), (3, .int (bi r5.1))]) [0, 3] rfl ?_
    exact fX12_part_P18_T d rec hrec r5.2 (bi r5.1)
set_option maxRecDepth 100000 in
set_option maxHeartbeats 4000000 in
theorem fX12_condition_L7_T (d : Nat) (rec : St → Option (Bool × St)) (hrec : ∀ (σ : St), Ct yX12_unit (kX12_unit d) [.ref 10] σ cSz (rec σ)) (σ : St) {kb : St → Int32 → Option (Bool × St)} (hkb : ∀ (σ' : St) (w3 : Int32), T (kX12_condition d) cSz σ' 7 [(0, .ref 10), (3, .int w3)] [] (kb σ' w3)) (v3 : Int32) : T (kX12_condition d) cSz σ 7 [(0, .ref 10), (3, .int v3)] [] (fX12_condition_L7 rec kb σ v3) := by
  unfold fX12_condition_L7
  refine T_aload_n (pc := 7) 0 dX12_condition_7 rfl rfl ?_
  refine T_getI (pc := 8) fd_10_14 hw1517 dX12_condition_8 ?_
  refine T_iconst (pc := 11) (v := -1) dX12_condition_11 (by decide) ?_
  refine T_icmp_ne (pc := 12) 60 dX12_condition_12 (by decide) (fun _ => ?_) (fun _ => ?_)
  · refine T_iload_n (pc := 60) 1 dX12_condition_60 rfl rfl ?_
    exact T_zretS (pc := 61) rfl dX12_condition_61
  · refine T_aload_n (pc := 15) 0 dX12_condition_15 rfl rfl ?_
    refine T_callSi (pc := 16) (rest := []) (Rn_V (pc := 16) (as := []) (rest := []) (ctX12_look σ) rfl rfl mv_X12_look hw1704 rfl ⟨by simp only [kX12_look, kX12_condition]; omega, by simp only [kX12_look, kX12_condition]; omega⟩ (Nat.le_of_ble_eq_true rfl) dX12_condition_16 rfl) rfl (fun r2 => ?_)
    refine T_bipush (pc := 19) (v := 124) dX12_condition_19 (by decide) ?_
    refine T_icmp_ne (pc := 21) 60 dX12_condition_21 (by decide) (fun _ => ?_) (fun _ => ?_)
    · refine T_iload_n (pc := 60) 1 dX12_condition_60 rfl rfl ?_
      exact T_zretS (pc := 61) rfl dX12_condition_61
    · refine T_aload_n (pc := 24) 0 dX12_condition_24 rfl rfl ?_
      refine T_dup_a (pc := 25) dX12_condition_25 ?_
      refine T_getI (pc := 26) fd_10_13 hw1516 dX12_condition_26 ?_
      refine T_iconst (pc := 29) (v := 1) dX12_condition_29 (by decide) ?_
      refine T_iadd (pc := 30) dX12_condition_30 ?_
      refine T_putI (pc := 31) fd_10_13 hw1516 dX12_condition_31 ?_
      refine T_letS (fun s3 => ?_)
      refine T_aload_n (pc := 34) 0 dX12_condition_34 rfl rfl ?_
      refine T_iconst (pc := 35) (v := 0) dX12_condition_35 (by decide) ?_
      refine T_iconst (pc := 36) (v := 0) dX12_condition_36 (by decide) ?_
      refine T_callSz (pc := 37) (rest := []) (Rn_V (pc := 37) (as := [.int (0 : Int32), .int (0 : Int32)]) (rest := []) (ctX12_part_B d rec hrec s3 (0 : Int32) (0 : Int32)) rfl rfl mv_X12_part hw1798 rfl ⟨by simp only [kX12_part, kX12_condition]; omega, by simp only [kX12_part, kX12_condition]; omega⟩ (Nat.le_of_ble_eq_true rfl) dX12_condition_37 rfl) rfl (fun r4 => ?_)
      refine T_istore (pc := 40) (lv' := [(0, .ref 10), (3, .int v3), (4, .int (bi r4.1))]) dX12_condition_40 (Nat.le_of_ble_eq_true rfl) rfl ?_
      refine T_iload_n (pc := 42) 1 dX12_condition_42 rfl rfl ?_
      refine T_if_ne (pc := 43) 51 dX12_condition_43 (by decide) (fun _ => ?_) (fun _ => ?_)
      · refine T_iconst (pc := 51) (v := 1) dX12_condition_51 (by decide) ?_
        refine T_goto (pc := 52) 56 dX12_condition_52 (by decide) ?_
        refine T_istore_n (pc := 56) (lv' := [(0, .ref 10), (3, .int (1 : Int32)), (4, .int (bi r4.1))]) dX12_condition_56 rfl (Nat.le_of_ble_eq_true rfl) rfl ?_
        refine T_goto (pc := 57) 7 dX12_condition_57 (by decide) ?_
        refine T_pick (lv' := [(0, .ref 10), (3, .int (1 : Int32))]) [0, 1] rfl ?_
        exact hkb r4.2 (1 : Int32)
      · refine T_iload (pc := 46) 2 dX12_condition_46 rfl ?_
        refine T_if_eq (pc := 48) 55 dX12_condition_48 (by decide) (fun _ => ?_) (fun _ => ?_)
        · refine T_iconst (pc := 55) (v := 0) dX12_condition_55 (by decide) ?_
          refine T_istore_n (pc := 56) (lv' := [(0, .ref 10), (3, .int (0 : Int32)), (4, .int (bi r4.1))]) dX12_condition_56 rfl (Nat.le_of_ble_eq_true rfl) rfl ?_
          refine T_goto (pc := 57) 7 dX12_condition_57 (by decide) ?_
          refine T_pick (lv' := [(0, .ref 10), (3, .int (0 : Int32))]) [0, 1] rfl ?_
          exact hkb r4.2 (0 : Int32)
        · refine T_iconst (pc := 51) (v := 1) dX12_condition_51 (by decide) ?_
          refine T_goto (pc := 52) 56 dX12_condition_52 (by decide) ?_
          refine T_istore_n (pc := 56) (lv' := [(0, .ref 10), (3, .int (1 : Int32)), (4, .int (bi r4.1))]) dX12_condition_56 rfl (Nat.le_of_ble_eq_true rfl) rfl ?_
          refine T_goto (pc := 57) 7 dX12_condition_57 (by decide) ?_
          refine T_pick (lv' := [(0, .ref 10), (3, .int (1 : Int32))]) [0, 1] rfl ?_
          exact hkb r4.2 (1 : Int32)
set_option maxRecDepth 100000 in
set_option maxHeartbeats 4000000 in
theorem fX12_condition_P7_T (d : Nat) (rec : St → Option (Bool × St)) (hrec : ∀ (σ : St), Ct yX12_unit (kX12_unit d) [.ref 10] σ cSz (rec σ)) (σ : St) (v3 : Int32) : T (kX12_condition d) cSz σ 7 [(0, .ref 10), (3, .int v3)] [] (fX12_condition_P7 rec σ v3) :=
  it_T (S := (fun t : St × Int32 => t.1)) (lv := fun t : St × Int32 => [(0, .ref 10), (3, .int t.2)]) (st := fun _ => []) (fun kb hkb t => fX12_condition_L7_T d rec hrec (hkb := fun σ v3 => hkb (σ, v3)) t.1 t.2) FU (σ, v3)
set_option maxRecDepth 100000 in
set_option maxHeartbeats 4000000 in
theorem ctX12_condition_B (d : Nat) (rec : St → Option (Bool × St)) (hrec : ∀ (σ : St), Ct yX12_unit (kX12_unit d) [.ref 10] σ cSz (rec σ)) (σ : St) (p0 : Int32) (p1 : Int32) : Ct yX12_condition (kX12_condition d) [.ref 10, .int p0, .int p1] σ cSz (fX12_condition_B rec σ p0 p1) := by
  refine Ct.of (by decide +kernel) rfl rfl (Nat.le_of_ble_eq_true rfl) ?_
  unfold fX12_condition_B
  show T _ _ _ 0 [(0, .ref 10), (1, .int p0), (2, .int p1)] [] _
  refine T_aload_n (pc := 0) 0 dX12_condition_0 rfl rfl ?_
  refine T_iload_n (pc := 1) 1 dX12_condition_1 rfl rfl ?_
  refine T_iload_n (pc := 2) 2 dX12_condition_2 rfl rfl ?_
  refine T_callSz (pc := 3) (rest := []) (Rn_V (pc := 3) (as := [.int p0, .int p1]) (rest := []) (ctX12_part_B d rec hrec σ p0 p1) rfl rfl mv_X12_part hw1798 rfl ⟨by simp only [kX12_part, kX12_condition]; omega, by simp only [kX12_part, kX12_condition]; omega⟩ (Nat.le_of_ble_eq_true rfl) dX12_condition_3 rfl) rfl (fun r1 => ?_)
  refine T_istore_n (pc := 6) (lv' := [(0, .ref 10), (1, .int p0), (2, .int p1), (3, .int (bi r1.1))]) dX12_condition_6 rfl (Nat.le_of_ble_eq_true rfl) rfl ?_
  refine T_pick (lv' := [(0, .ref 10), (3, .int (bi r1.1))]) [0, 3] rfl ?_
  exact fX12_condition_P7_T d rec hrec r1.2 (bi r1.1)
set_option maxRecDepth 100000 in
set_option maxHeartbeats 4000000 in
theorem ctX12_unit_B (d : Nat) (rec : St → Option (Bool × St)) (hrec : ∀ (σ : St), Ct yX12_unit (kX12_unit d) [.ref 10] σ cSz (rec σ)) (σ : St) : Ct yX12_unit (kX12_unit (d + 1)) [.ref 10] σ cSz (fX12_unit_B rec σ) := by
  refine Ct.of (by decide +kernel) rfl rfl (Nat.le_of_ble_eq_true rfl) ?_
  unfold fX12_unit_B
  show T _ _ _ 0 [(0, .ref 10)] [] _
  refine T_aload_n (pc := 0) 0 dX12_unit_0 rfl rfl ?_
  refine T_callSi (pc := 1) (rest := []) (Rn_V (pc := 1) (as := []) (rest := []) (ctX12_look σ) rfl rfl mv_X12_look hw1704 rfl ⟨by simp only [kX12_look, kX12_unit]; omega, by simp only [kX12_look, kX12_unit]; omega⟩ (Nat.le_of_ble_eq_true rfl) dX12_unit_1 rfl) rfl (fun r1 => ?_)
  refine T_istore_n (pc := 4) (lv' := [(0, .ref 10), (1, .int r1.1)]) dX12_unit_4 rfl (Nat.le_of_ble_eq_true rfl) rfl ?_
  refine T_iload_n (pc := 5) 1 dX12_unit_5 rfl rfl ?_
  refine T_bipush (pc := 6) (v := 33) dX12_unit_6 (by decide) ?_
  refine T_icmp_ne (pc := 8) 45 dX12_unit_8 (by decide) (fun _ => ?_) (fun _ => ?_)
  · refine T_iload_n (pc := 45) 1 dX12_unit_45 rfl rfl ?_
    refine T_bipush (pc := 46) (v := 40) dX12_unit_46 (by decide) ?_
    refine T_icmp_ne (pc := 48) 90 dX12_unit_48 (by decide) (fun _ => ?_) (fun _ => ?_)
    · refine T_aload_n (pc := 90) 0 dX12_unit_90 rfl rfl ?_
      refine T_iconst (pc := 91) (v := 0) dX12_unit_91 (by decide) ?_
      refine T_iconst (pc := 92) (v := 0) dX12_unit_92 (by decide) ?_
      refine T_callSz (pc := 93) (rest := []) (Rn_V (pc := 93) (as := [.int (0 : Int32), .int (0 : Int32)]) (rest := []) (ctX12_compares r1.2 (0 : Int32) (0 : Int32)) rfl rfl mv_X12_compares hw1802 rfl ⟨by simp only [kX12_compares, kX12_unit]; omega, by simp only [kX12_compares, kX12_unit]; omega⟩ (Nat.le_of_ble_eq_true rfl) dX12_unit_93 rfl) rfl (fun r2 => ?_)
      exact T_zreturn (pc := 96) r2.1 rfl dX12_unit_96 rfl rfl
    · refine T_aload_n (pc := 51) 0 dX12_unit_51 rfl rfl ?_
      refine T_callSz (pc := 52) (rest := []) (Rn_V (pc := 52) (as := []) (rest := []) (ctX12_goesIn r1.2) rfl rfl mv_X12_goesIn hw1818 rfl ⟨by simp only [kX12_goesIn, kX12_unit]; omega, by simp only [kX12_goesIn, kX12_unit]; omega⟩ (Nat.le_of_ble_eq_true rfl) dX12_unit_52 rfl) rfl (fun r3 => ?_)
      refine T_if_ne (pc := 55) 60 dX12_unit_55 (by decide) (fun _ => ?_) (fun _ => ?_)
      · refine T_aload_n (pc := 60) 0 dX12_unit_60 rfl rfl ?_
        refine T_iconst (pc := 61) (v := 0) dX12_unit_61 (by decide) ?_
        refine T_iconst (pc := 62) (v := 0) dX12_unit_62 (by decide) ?_
        refine T_callSz (pc := 63) (rest := []) (Rn_V (pc := 63) (as := [.int (0 : Int32), .int (0 : Int32)]) (rest := []) (ctX12_condition_B d rec hrec r3.2 (0 : Int32) (0 : Int32)) rfl rfl mv_X12_condition hw1794 rfl ⟨by simp only [kX12_condition, kX12_unit]; omega, by simp only [kX12_condition, kX12_unit]; omega⟩ (Nat.le_of_ble_eq_true rfl) dX12_unit_63 rfl) rfl (fun r4 => ?_)
        refine T_istore_n (pc := 66) (lv' := [(0, .ref 10), (1, .int r1.1), (2, .int (bi r4.1))]) dX12_unit_66 rfl (Nat.le_of_ble_eq_true rfl) rfl ?_
        refine T_aload_n (pc := 67) 0 dX12_unit_67 rfl rfl ?_
        refine T_bipush (pc := 68) (v := 41) dX12_unit_68 (by decide) ?_
        refine T_callSz (pc := 70) (rest := []) (Rn_V (pc := 70) (as := [.int (41 : Int32)]) (rest := []) (ctX12_takes r4.2 (41 : Int32)) rfl rfl mv_X12_takes hw1720 rfl ⟨by simp only [kX12_takes, kX12_unit]; omega, by simp only [kX12_takes, kX12_unit]; omega⟩ (Nat.le_of_ble_eq_true rfl) dX12_unit_70 rfl) rfl (fun r5 => ?_)
        refine T_if_ne (pc := 73) 78 dX12_unit_73 (by decide) (fun _ => ?_) (fun _ => ?_)
        · refine T_aload_n (pc := 78) 0 dX12_unit_78 rfl rfl ?_
          refine T_dup_a (pc := 79) dX12_unit_79 ?_
          refine T_getI (pc := 80) fd_10_15 hw1518 dX12_unit_80 ?_
          refine T_iconst (pc := 83) (v := 1) dX12_unit_83 (by decide) ?_
          refine T_isub (pc := 84) dX12_unit_84 ?_
          refine T_putI (pc := 85) fd_10_15 hw1518 dX12_unit_85 ?_
          refine T_letS (fun s6 => ?_)
          refine T_iload_n (pc := 88) 2 dX12_unit_88 rfl rfl ?_
          exact T_zreturn (pc := 89) r4.1 rfl dX12_unit_89 rfl rfl
        · refine T_iconst (pc := 76) (v := 0) dX12_unit_76 (by decide) ?_
          exact T_zreturn (pc := 77) false rfl dX12_unit_77 rfl rfl
      · refine T_iconst (pc := 58) (v := 0) dX12_unit_58 (by decide) ?_
        exact T_zreturn (pc := 59) false rfl dX12_unit_59 rfl rfl
  · refine T_aload_n (pc := 11) 0 dX12_unit_11 rfl rfl ?_
    refine T_callSz (pc := 12) (rest := []) (Rn_V (pc := 12) (as := []) (rest := []) (ctX12_goesIn r1.2) rfl rfl mv_X12_goesIn hw1818 rfl ⟨by simp only [kX12_goesIn, kX12_unit]; omega, by simp only [kX12_goesIn, kX12_unit]; omega⟩ (Nat.le_of_ble_eq_true rfl) dX12_unit_12 rfl) rfl (fun r7 => ?_)
    refine T_if_ne (pc := 15) 20 dX12_unit_15 (by decide) (fun _ => ?_) (fun _ => ?_)
    · refine T_aload_n (pc := 20) 0 dX12_unit_20 rfl rfl ?_
      refine T_callSz (pc := 21) (rest := []) (Rn_V (pc := 21) (as := []) (rest := []) (hrec r7.2) rfl rfl mv_X12_unit hw1836 rfl ⟨by simp only [kX12_unit, kX12_unit]; omega, by simp only [kX12_unit, kX12_unit]; omega⟩ (Nat.le_of_ble_eq_true rfl) dX12_unit_21 rfl) rfl (fun r8 => ?_)
      refine T_istore_n (pc := 24) (lv' := [(0, .ref 10), (1, .int r1.1), (2, .int (bi r8.1))]) dX12_unit_24 rfl (Nat.le_of_ble_eq_true rfl) rfl ?_
      refine T_aload_n (pc := 25) 0 dX12_unit_25 rfl rfl ?_
      refine T_dup_a (pc := 26) dX12_unit_26 ?_
      refine T_getI (pc := 27) fd_10_15 hw1518 dX12_unit_27 ?_
      refine T_iconst (pc := 30) (v := 1) dX12_unit_30 (by decide) ?_
      refine T_isub (pc := 31) dX12_unit_31 ?_
      refine T_putI (pc := 32) fd_10_15 hw1518 dX12_unit_32 ?_
      refine T_letS (fun s9 => ?_)
      refine T_iload_n (pc := 35) 2 dX12_unit_35 rfl rfl ?_
      refine T_if_ne (pc := 36) 43 dX12_unit_36 (by decide) (fun _ => ?_) (fun _ => ?_)
      · refine T_iconst (pc := 43) (v := 0) dX12_unit_43 (by decide) ?_
        exact T_zreturn (pc := 44) false rfl dX12_unit_44 rfl rfl
      · refine T_iconst (pc := 39) (v := 1) dX12_unit_39 (by decide) ?_
        refine T_goto (pc := 40) 44 dX12_unit_40 (by decide) ?_
        exact T_zreturn (pc := 44) true rfl dX12_unit_44 rfl rfl
    · refine T_iconst (pc := 18) (v := 0) dX12_unit_18 (by decide) ?_
      exact T_zreturn (pc := 19) false rfl dX12_unit_19 rfl rfl
theorem ctX12_unit : ∀ (d : Nat) (σ : St), Ct yX12_unit (kX12_unit d) [.ref 10] σ cSz (fX12_unit d σ)
  | 0, _ => fun _ h => by cases h
  | d + 1, σ => ctX12_unit_B d (fX12_unit d) (ctX12_unit d) σ
theorem ctX12_part (d : Nat) (σ : St) (p0 : Int32) (p1 : Int32) : Ct yX12_part (kX12_part d) [.ref 10, .int p0, .int p1] σ cSz (fX12_part d σ p0 p1) := ctX12_part_B d (fX12_unit d) (ctX12_unit d) σ p0 p1
theorem ctX12_condition (d : Nat) (σ : St) (p0 : Int32) (p1 : Int32) : Ct yX12_condition (kX12_condition d) [.ref 10, .int p0, .int p1] σ cSz (fX12_condition d σ p0 p1) := ctX12_condition_B d (fX12_unit d) (ctX12_unit d) σ p0 p1
set_option maxRecDepth 100000 in
set_option maxHeartbeats 4000000 in
theorem fX12_clause_J134_T (σ : St) (v1 : Int32) (v2 : Int32) (v3 : Int32) : T kX12_clause cSv σ 134 [(0, .ref 10), (1, .int v1), (2, .int v2), (3, .int v3)] [] (fX12_clause_J134 σ v1 v2 v3) := by
  unfold fX12_clause_J134
  refine T_aload_n (pc := 134) 0 dX12_clause_134 rfl rfl ?_
  refine T_getI (pc := 135) fd_10_14 hw1517 dX12_clause_135 ?_
  refine T_iconst (pc := 138) (v := -1) dX12_clause_138 (by decide) ?_
  refine T_icmp_ne (pc := 139) 161 dX12_clause_139 (by decide) (fun _ => ?_) (fun _ => ?_)
  · exact T_return (pc := 161) rfl dX12_clause_161 rfl
  · refine T_aload_n (pc := 142) 0 dX12_clause_142 rfl rfl ?_
    refine T_getI (pc := 143) fd_10_20 hw1523 dX12_clause_143 ?_
    refine T_if_ne (pc := 146) 161 dX12_clause_146 (by decide) (fun _ => ?_) (fun _ => ?_)
    · exact T_return (pc := 161) rfl dX12_clause_161 rfl
    · refine T_iload_n (pc := 149) 1 dX12_clause_149 rfl rfl ?_
      refine T_aload_n (pc := 150) 0 dX12_clause_150 rfl rfl ?_
      refine T_getI (pc := 151) fd_10_16 hw1519 dX12_clause_151 ?_
      refine T_icmp_ne (pc := 154) 161 dX12_clause_154 (by decide) (fun _ => ?_) (fun _ => ?_)
      · exact T_return (pc := 161) rfl dX12_clause_161 rfl
      · refine T_iload_n (pc := 157) 2 dX12_clause_157 rfl rfl ?_
        refine T_if_ne (pc := 158) 162 dX12_clause_158 (by decide) (fun _ => ?_) (fun _ => ?_)
        · refine T_aload_n (pc := 162) 0 dX12_clause_162 rfl rfl ?_
          refine T_iconst (pc := 163) (v := 1) dX12_clause_163 (by decide) ?_
          refine T_putZ (pc := 164) fd_10_20 hw1523 dX12_clause_164 rfl rfl ?_
          refine T_letS (fun s9 => ?_)
          refine T_aload_n (pc := 167) 0 dX12_clause_167 rfl rfl ?_
          refine T_iload_n (pc := 168) 3 dX12_clause_168 rfl rfl ?_
          refine T_putI (pc := 169) fd_10_17 hw1520 dX12_clause_169 ?_
          refine T_letS (fun s10 => ?_)
          exact T_return (pc := 172) rfl dX12_clause_172 rfl
        · exact T_return (pc := 161) rfl dX12_clause_161 rfl
set_option maxRecDepth 100000 in
set_option maxHeartbeats 4000000 in
theorem ctX12_clause (σ : St) : Ct yX12_clause kX12_clause [.ref 10] σ cSv (fX12_clause σ) := by
  refine Ct.of (by decide +kernel) rfl rfl (Nat.le_of_ble_eq_true rfl) ?_
  unfold fX12_clause
  show T _ _ _ 0 [(0, .ref 10)] [] _
  refine T_aload_n (pc := 0) 0 dX12_clause_0 rfl rfl ?_
  refine T_callSi (pc := 1) (rest := []) (Rn_V (pc := 1) (as := []) (rest := []) (ctX12_look σ) rfl rfl mv_X12_look hw1704 rfl ⟨Nat.le_of_ble_eq_true rfl, Nat.le_of_ble_eq_true rfl⟩ (Nat.le_of_ble_eq_true rfl) dX12_clause_1 rfl) rfl (fun r1 => ?_)
  refine T_istore_n (pc := 4) (lv' := [(0, .ref 10), (1, .int r1.1)]) dX12_clause_4 rfl (Nat.le_of_ble_eq_true rfl) rfl ?_
  refine T_ldcS (pc := 5) 200 (fun _ _ _ _ h => h.2.1.1) dX12_clause_5 ?_
  refine T_iload_n (pc := 7) 1 dX12_clause_7 rfl rfl ?_
  refine T_callPz (pc := 8) (rest := []) (Rn_S (pc := 8) (as := [.ref 200, .int r1.1]) (rest := []) (ctX12_isAmong_200 r1.2 r1.1) ms_X12_isAmong hw1743 rfl ⟨Nat.le_of_ble_eq_true rfl, Nat.le_of_ble_eq_true rfl⟩ (Nat.le_of_ble_eq_true rfl) dX12_clause_8 rfl) rfl (fun x2 => ?_)
  refine T_if_ne (pc := 11) 20 dX12_clause_11 (by decide) (fun _ => ?_) (fun _ => ?_)
  · refine T_aload_n (pc := 20) 0 dX12_clause_20 rfl rfl ?_
    refine T_dup_a (pc := 21) dX12_clause_21 ?_
    refine T_getI (pc := 22) fd_10_13 hw1516 dX12_clause_22 ?_
    refine T_iconst (pc := 25) (v := 1) dX12_clause_25 (by decide) ?_
    refine T_iadd (pc := 26) dX12_clause_26 ?_
    refine T_putI (pc := 27) fd_10_13 hw1516 dX12_clause_27 ?_
    refine T_letS (fun s3 => ?_)
    refine T_aload_n (pc := 30) 0 dX12_clause_30 rfl rfl ?_
    refine T_bipush (pc := 31) (v := 58) dX12_clause_31 (by decide) ?_
    refine T_callSz (pc := 33) (rest := []) (Rn_V (pc := 33) (as := [.int (58 : Int32)]) (rest := []) (ctX12_takes s3 (58 : Int32)) rfl rfl mv_X12_takes hw1720 rfl ⟨Nat.le_of_ble_eq_true rfl, Nat.le_of_ble_eq_true rfl⟩ (Nat.le_of_ble_eq_true rfl) dX12_clause_33 rfl) rfl (fun r4 => ?_)
    refine T_if_ne (pc := 36) 40 dX12_clause_36 (by decide) (fun _ => ?_) (fun _ => ?_)
    · refine T_iconst (pc := 40) (v := 1) dX12_clause_40 (by decide) ?_
      refine T_istore_n (pc := 41) (lv' := [(0, .ref 10), (1, .int r1.1), (2, .int (1 : Int32))]) dX12_clause_41 rfl (Nat.le_of_ble_eq_true rfl) rfl ?_
      refine T_iconst (pc := 42) (v := 0) dX12_clause_42 (by decide) ?_
      refine T_istore_n (pc := 43) (lv' := [(0, .ref 10), (1, .int r1.1), (2, .int (1 : Int32)), (3, .int (0 : Int32))]) dX12_clause_43 rfl (Nat.le_of_ble_eq_true rfl) rfl ?_
      refine T_aload_n (pc := 44) 0 dX12_clause_44 rfl rfl ?_
      refine T_callSi (pc := 45) (rest := []) (Rn_V (pc := 45) (as := []) (rest := []) (ctX12_look r4.2) rfl rfl mv_X12_look hw1704 rfl ⟨Nat.le_of_ble_eq_true rfl, Nat.le_of_ble_eq_true rfl⟩ (Nat.le_of_ble_eq_true rfl) dX12_clause_45 rfl) rfl (fun r5 => ?_)
      refine T_istore (pc := 48) (lv' := [(0, .ref 10), (1, .int r1.1), (2, .int (1 : Int32)), (3, .int (0 : Int32)), (4, .int r5.1)]) dX12_clause_48 (Nat.le_of_ble_eq_true rfl) rfl ?_
      refine T_iload (pc := 50) 4 dX12_clause_50 rfl ?_
      refine T_bipush (pc := 52) (v := 33) dX12_clause_52 (by decide) ?_
      refine T_icmp_eq (pc := 54) 64 dX12_clause_54 (by decide) (fun _ => ?_) (fun _ => ?_)
      · refine T_aload_n (pc := 64) 0 dX12_clause_64 rfl rfl ?_
        refine T_iconst (pc := 65) (v := 0) dX12_clause_65 (by decide) ?_
        refine T_iconst (pc := 66) (v := 0) dX12_clause_66 (by decide) ?_
        refine T_callSz (pc := 67) (rest := []) (Rn_V (pc := 67) (as := [.int (0 : Int32), .int (0 : Int32)]) (rest := []) (ctX12_condition 8 r5.2 (0 : Int32) (0 : Int32)) rfl rfl mv_X12_condition hw1794 rfl ⟨Nat.le_of_ble_eq_true rfl, Nat.le_of_ble_eq_true rfl⟩ (Nat.le_of_ble_eq_true rfl) dX12_clause_67 rfl) rfl (fun r6 => ?_)
        refine T_istore_n (pc := 70) (lv' := [(0, .ref 10), (1, .int r1.1), (2, .int (bi r6.1)), (3, .int (0 : Int32)), (4, .int r5.1)]) dX12_clause_70 rfl (Nat.le_of_ble_eq_true rfl) rfl ?_
        refine T_aload_n (pc := 71) 0 dX12_clause_71 rfl rfl ?_
        refine T_bipush (pc := 72) (v := 63) dX12_clause_72 (by decide) ?_
        refine T_callSz (pc := 74) (rest := []) (Rn_V (pc := 74) (as := [.int (63 : Int32)]) (rest := []) (ctX12_takes r6.2 (63 : Int32)) rfl rfl mv_X12_takes hw1720 rfl ⟨Nat.le_of_ble_eq_true rfl, Nat.le_of_ble_eq_true rfl⟩ (Nat.le_of_ble_eq_true rfl) dX12_clause_74 rfl) rfl (fun r7 => ?_)
        refine T_if_ne (pc := 77) 81 dX12_clause_77 (by decide) (fun _ => ?_) (fun _ => ?_)
        · refine T_aload_n (pc := 81) 0 dX12_clause_81 rfl rfl ?_
          refine T_callSi (pc := 82) (rest := []) (Rn_V (pc := 82) (as := []) (rest := []) (ctX12_sum 8 r7.2) rfl rfl mv_X12_sum hw1806 rfl ⟨Nat.le_of_ble_eq_true rfl, Nat.le_of_ble_eq_true rfl⟩ (Nat.le_of_ble_eq_true rfl) dX12_clause_82 rfl) rfl (fun r8 => ?_)
          refine T_istore_n (pc := 85) (lv' := [(0, .ref 10), (1, .int r1.1), (2, .int (bi r6.1)), (3, .int r8.1), (4, .int r5.1)]) dX12_clause_85 rfl (Nat.le_of_ble_eq_true rfl) rfl ?_
          refine T_goto (pc := 86) 134 dX12_clause_86 (by decide) ?_
          refine T_pick (lv' := [(0, .ref 10), (1, .int r1.1), (2, .int (bi r6.1)), (3, .int r8.1)]) [0, 1, 2, 3] rfl ?_
          exact fX12_clause_J134_T r8.2 r1.1 (bi r6.1) r8.1
        · exact T_return (pc := 80) rfl dX12_clause_80 rfl
      · refine T_iload (pc := 57) 4 dX12_clause_57 rfl ?_
        refine T_bipush (pc := 59) (v := 40) dX12_clause_59 (by decide) ?_
        refine T_icmp_ne (pc := 61) 89 dX12_clause_61 (by decide) (fun _ => ?_) (fun _ => ?_)
        · refine T_aload_n (pc := 89) 0 dX12_clause_89 rfl rfl ?_
          refine T_callSi (pc := 90) (rest := []) (Rn_V (pc := 90) (as := []) (rest := []) (ctX12_sum 8 r5.2) rfl rfl mv_X12_sum hw1806 rfl ⟨Nat.le_of_ble_eq_true rfl, Nat.le_of_ble_eq_true rfl⟩ (Nat.le_of_ble_eq_true rfl) dX12_clause_90 rfl) rfl (fun r11 => ?_)
          refine T_istore_n (pc := 93) (lv' := [(0, .ref 10), (1, .int r1.1), (2, .int (1 : Int32)), (3, .int r11.1), (4, .int r5.1)]) dX12_clause_93 rfl (Nat.le_of_ble_eq_true rfl) rfl ?_
          refine T_aload_n (pc := 94) 0 dX12_clause_94 rfl rfl ?_
          refine T_getI (pc := 95) fd_10_14 hw1517 dX12_clause_95 ?_
          refine T_iconst (pc := 98) (v := -1) dX12_clause_98 (by decide) ?_
          refine T_icmp_ne (pc := 99) 134 dX12_clause_99 (by decide) (fun _ => ?_) (fun _ => ?_)
          · refine T_pick (lv' := [(0, .ref 10), (1, .int r1.1), (2, .int (1 : Int32)), (3, .int r11.1)]) [0, 1, 2, 3] rfl ?_
            exact fX12_clause_J134_T r11.2 r1.1 (1 : Int32) r11.1
          · refine T_aload_n (pc := 102) 0 dX12_clause_102 rfl rfl ?_
            refine T_callSi (pc := 103) (rest := []) (Rn_V (pc := 103) (as := []) (rest := []) (ctX12_look r11.2) rfl rfl mv_X12_look hw1704 rfl ⟨Nat.le_of_ble_eq_true rfl, Nat.le_of_ble_eq_true rfl⟩ (Nat.le_of_ble_eq_true rfl) dX12_clause_103 rfl) rfl (fun r12 => ?_)
            refine T_callPz (pc := 106) (rest := []) (Rn_S (pc := 106) (as := [.int r12.1]) (rest := []) (ctX12_isSign r12.2 r12.1) ms_X12_isSign hw1833 rfl ⟨Nat.le_of_ble_eq_true rfl, Nat.le_of_ble_eq_true rfl⟩ (Nat.le_of_ble_eq_true rfl) dX12_clause_106 rfl) rfl (fun x13 => ?_)
            refine T_if_eq (pc := 109) 134 dX12_clause_109 (by decide) (fun _ => ?_) (fun _ => ?_)
            · refine T_pick (lv' := [(0, .ref 10), (1, .int r1.1), (2, .int (1 : Int32)), (3, .int r11.1)]) [0, 1, 2, 3] rfl ?_
              exact fX12_clause_J134_T r12.2 r1.1 (1 : Int32) r11.1
            · refine T_aload_n (pc := 112) 0 dX12_clause_112 rfl rfl ?_
              refine T_iconst (pc := 113) (v := 1) dX12_clause_113 (by decide) ?_
              refine T_iload_n (pc := 114) 3 dX12_clause_114 rfl rfl ?_
              refine T_callSz (pc := 115) (rest := []) (Rn_V (pc := 115) (as := [.int (1 : Int32), .int r11.1]) (rest := []) (ctX12_condition 8 r12.2 (1 : Int32) r11.1) rfl rfl mv_X12_condition hw1794 rfl ⟨Nat.le_of_ble_eq_true rfl, Nat.le_of_ble_eq_true rfl⟩ (Nat.le_of_ble_eq_true rfl) dX12_clause_115 rfl) rfl (fun r14 => ?_)
              refine T_istore_n (pc := 118) (lv' := [(0, .ref 10), (1, .int r1.1), (2, .int (bi r14.1)), (3, .int r11.1), (4, .int r5.1)]) dX12_clause_118 rfl (Nat.le_of_ble_eq_true rfl) rfl ?_
              refine T_aload_n (pc := 119) 0 dX12_clause_119 rfl rfl ?_
              refine T_bipush (pc := 120) (v := 63) dX12_clause_120 (by decide) ?_
              refine T_callSz (pc := 122) (rest := []) (Rn_V (pc := 122) (as := [.int (63 : Int32)]) (rest := []) (ctX12_takes r14.2 (63 : Int32)) rfl rfl mv_X12_takes hw1720 rfl ⟨Nat.le_of_ble_eq_true rfl, Nat.le_of_ble_eq_true rfl⟩ (Nat.le_of_ble_eq_true rfl) dX12_clause_122 rfl) rfl (fun r15 => ?_)
              refine T_if_ne (pc := 125) 129 dX12_clause_125 (by decide) (fun _ => ?_) (fun _ => ?_)
              · refine T_aload_n (pc := 129) 0 dX12_clause_129 rfl rfl ?_
                refine T_callSi (pc := 130) (rest := []) (Rn_V (pc := 130) (as := []) (rest := []) (ctX12_sum 8 r15.2) rfl rfl mv_X12_sum hw1806 rfl ⟨Nat.le_of_ble_eq_true rfl, Nat.le_of_ble_eq_true rfl⟩ (Nat.le_of_ble_eq_true rfl) dX12_clause_130 rfl) rfl (fun r16 => ?_)
                refine T_istore_n (pc := 133) (lv' := [(0, .ref 10), (1, .int r1.1), (2, .int (bi r14.1)), (3, .int r16.1), (4, .int r5.1)]) dX12_clause_133 rfl (Nat.le_of_ble_eq_true rfl) rfl ?_
                refine T_pick (lv' := [(0, .ref 10), (1, .int r1.1), (2, .int (bi r14.1)), (3, .int r16.1)]) [0, 1, 2, 3] rfl ?_
                exact fX12_clause_J134_T r16.2 r1.1 (bi r14.1) r16.1
              · exact T_return (pc := 128) rfl dX12_clause_128 rfl
        · refine T_aload_n (pc := 64) 0 dX12_clause_64 rfl rfl ?_
          refine T_iconst (pc := 65) (v := 0) dX12_clause_65 (by decide) ?_
          refine T_iconst (pc := 66) (v := 0) dX12_clause_66 (by decide) ?_
          refine T_callSz (pc := 67) (rest := []) (Rn_V (pc := 67) (as := [.int (0 : Int32), .int (0 : Int32)]) (rest := []) (ctX12_condition 8 r5.2 (0 : Int32) (0 : Int32)) rfl rfl mv_X12_condition hw1794 rfl ⟨Nat.le_of_ble_eq_true rfl, Nat.le_of_ble_eq_true rfl⟩ (Nat.le_of_ble_eq_true rfl) dX12_clause_67 rfl) rfl (fun r17 => ?_)
          refine T_istore_n (pc := 70) (lv' := [(0, .ref 10), (1, .int r1.1), (2, .int (bi r17.1)), (3, .int (0 : Int32)), (4, .int r5.1)]) dX12_clause_70 rfl (Nat.le_of_ble_eq_true rfl) rfl ?_
          refine T_aload_n (pc := 71) 0 dX12_clause_71 rfl rfl ?_
          refine T_bipush (pc := 72) (v := 63) dX12_clause_72 (by decide) ?_
          refine T_callSz (pc := 74) (rest := []) (Rn_V (pc := 74) (as := [.int (63 : Int32)]) (rest := []) (ctX12_takes r17.2 (63 : Int32)) rfl rfl mv_X12_takes hw1720 rfl ⟨Nat.le_of_ble_eq_true rfl, Nat.le_of_ble_eq_true rfl⟩ (Nat.le_of_ble_eq_true rfl) dX12_clause_74 rfl) rfl (fun r18 => ?_)
          refine T_if_ne (pc := 77) 81 dX12_clause_77 (by decide) (fun _ => ?_) (fun _ => ?_)
          · refine T_aload_n (pc := 81) 0 dX12_clause_81 rfl rfl ?_
            refine T_callSi (pc := 82) (rest := []) (Rn_V (pc := 82) (as := []) (rest := []) (ctX12_sum 8 r18.2) rfl rfl mv_X12_sum hw1806 rfl ⟨Nat.le_of_ble_eq_true rfl, Nat.le_of_ble_eq_true rfl⟩ (Nat.le_of_ble_eq_true rfl) dX12_clause_82 rfl) rfl (fun r19 => ?_)
            refine T_istore_n (pc := 85) (lv' := [(0, .ref 10), (1, .int r1.1), (2, .int (bi r17.1)), (3, .int r19.1), (4, .int r5.1)]) dX12_clause_85 rfl (Nat.le_of_ble_eq_true rfl) rfl ?_
            refine T_goto (pc := 86) 134 dX12_clause_86 (by decide) ?_
            refine T_pick (lv' := [(0, .ref 10), (1, .int r1.1), (2, .int (bi r17.1)), (3, .int r19.1)]) [0, 1, 2, 3] rfl ?_
            exact fX12_clause_J134_T r19.2 r1.1 (bi r17.1) r19.1
          · exact T_return (pc := 80) rfl dX12_clause_80 rfl
    · exact T_return (pc := 39) rfl dX12_clause_39 rfl
  · refine T_aload_n (pc := 14) 0 dX12_clause_14 rfl rfl ?_
    refine T_callSz (pc := 15) (rest := []) (Rn_V (pc := 15) (as := []) (rest := []) (ctX12_fails r1.2) rfl rfl mv_X12_fails hw1708 rfl ⟨Nat.le_of_ble_eq_true rfl, Nat.le_of_ble_eq_true rfl⟩ (Nat.le_of_ble_eq_true rfl) dX12_clause_15 rfl) rfl (fun r20 => ?_)
    refine T_pop_i (pc := 18) dX12_clause_18 ?_
    exact T_return (pc := 19) rfl dX12_clause_19 rfl
set_option maxRecDepth 100000 in
set_option maxHeartbeats 4000000 in
theorem ctX12_could (σ : St) (p0 : Int32) (p1 : Int32) (p2 : Int32) (p3 : Int32) : Ct yX12_could kX12_could [.ref 10, .int p0, .int p1, .int p2, .int p3] σ cSi (fX12_could σ p0 p1 p2 p3) := by
  refine Ct.of (by decide +kernel) rfl rfl (Nat.le_of_ble_eq_true rfl) ?_
  unfold fX12_could
  show T _ _ _ 0 [(0, .ref 10), (1, .int p0), (2, .int p1), (3, .int p2), (4, .int p3)] [] _
  refine T_aload_n (pc := 0) 0 dX12_could_0 rfl rfl ?_
  refine T_iconst (pc := 1) (v := 0) dX12_could_1 (by decide) ?_
  refine T_putI (pc := 2) fd_10_0 hw1503 dX12_could_2 ?_
  refine T_letS (fun s1 => ?_)
  refine T_aload_n (pc := 5) 0 dX12_could_5 rfl rfl ?_
  refine T_iload_n (pc := 6) 1 dX12_could_6 rfl rfl ?_
  refine T_callPz (pc := 7) (rest := []) (Rn_V (pc := 7) (as := [.int p0]) (rest := []) (ctX12_isPlot s1 p0) rfl rfl mv_X12_isPlot hw2056 rfl ⟨Nat.le_of_ble_eq_true rfl, Nat.le_of_ble_eq_true rfl⟩ (Nat.le_of_ble_eq_true rfl) dX12_could_7 rfl) rfl (fun x2 => ?_)
  refine T_if_eq (pc := 10) 43 dX12_could_10 (by decide) (fun _ => ?_) (fun _ => ?_)
  · refine T_iconst (pc := 43) (v := -1) dX12_could_43 (by decide) ?_
    exact T_ireturn (pc := 44) rfl dX12_could_44 rfl
  · refine T_iload_n (pc := 13) 2 dX12_could_13 rfl rfl ?_
    refine T_iconst (pc := 14) (v := 0) dX12_could_14 (by decide) ?_
    refine T_iconst (pc := 15) (v := 3) dX12_could_15 (by decide) ?_
    refine T_callPz (pc := 16) (rest := []) (Rn_S (pc := 16) (as := [.int p1, .int (0 : Int32), .int (3 : Int32)]) (rest := []) (ctX12_isIn s1 p1 (0 : Int32) (3 : Int32)) ms_X12_isIn hw1689 rfl ⟨Nat.le_of_ble_eq_true rfl, Nat.le_of_ble_eq_true rfl⟩ (Nat.le_of_ble_eq_true rfl) dX12_could_16 rfl) rfl (fun x3 => ?_)
    refine T_if_eq (pc := 19) 43 dX12_could_19 (by decide) (fun _ => ?_) (fun _ => ?_)
    · refine T_iconst (pc := 43) (v := -1) dX12_could_43 (by decide) ?_
      exact T_ireturn (pc := 44) rfl dX12_could_44 rfl
    · refine T_iload_n (pc := 22) 3 dX12_could_22 rfl rfl ?_
      refine T_iconst (pc := 23) (v := 0) dX12_could_23 (by decide) ?_
      refine T_bipush (pc := 24) (v := 10) dX12_could_24 (by decide) ?_
      refine T_callPz (pc := 26) (rest := []) (Rn_S (pc := 26) (as := [.int p2, .int (0 : Int32), .int (10 : Int32)]) (rest := []) (ctX12_isIn s1 p2 (0 : Int32) (10 : Int32)) ms_X12_isIn hw1689 rfl ⟨Nat.le_of_ble_eq_true rfl, Nat.le_of_ble_eq_true rfl⟩ (Nat.le_of_ble_eq_true rfl) dX12_could_26 rfl) rfl (fun x4 => ?_)
      refine T_if_eq (pc := 29) 43 dX12_could_29 (by decide) (fun _ => ?_) (fun _ => ?_)
      · refine T_iconst (pc := 43) (v := -1) dX12_could_43 (by decide) ?_
        exact T_ireturn (pc := 44) rfl dX12_could_44 rfl
      · refine T_iload (pc := 32) 4 dX12_could_32 rfl ?_
        refine T_iconst (pc := 34) (v := 0) dX12_could_34 (by decide) ?_
        refine T_bipush (pc := 35) (v := 10) dX12_could_35 (by decide) ?_
        refine T_callPz (pc := 37) (rest := []) (Rn_S (pc := 37) (as := [.int p3, .int (0 : Int32), .int (10 : Int32)]) (rest := []) (ctX12_isIn s1 p3 (0 : Int32) (10 : Int32)) ms_X12_isIn hw1689 rfl ⟨Nat.le_of_ble_eq_true rfl, Nat.le_of_ble_eq_true rfl⟩ (Nat.le_of_ble_eq_true rfl) dX12_could_37 rfl) rfl (fun x5 => ?_)
        refine T_if_ne (pc := 40) 45 dX12_could_40 (by decide) (fun _ => ?_) (fun _ => ?_)
        · refine T_aload_n (pc := 45) 0 dX12_could_45 rfl rfl ?_
          refine T_iload_n (pc := 46) 1 dX12_could_46 rfl rfl ?_
          refine T_aload_n (pc := 47) 0 dX12_could_47 rfl rfl ?_
          refine T_iload_n (pc := 48) 1 dX12_could_48 rfl rfl ?_
          refine T_callPi (pc := 49) (rest := [.int p0, .ref 10]) (Rn_V (pc := 49) (as := [.int p0]) (rest := [.int p0, .ref 10]) (ctX12_partsOf s1 p0) rfl rfl mv_X12_partsOf hw2060 rfl ⟨Nat.le_of_ble_eq_true rfl, Nat.le_of_ble_eq_true rfl⟩ (Nat.le_of_ble_eq_true rfl) dX12_could_49 rfl) rfl (fun x6 => ?_)
          refine T_aload_n (pc := 52) 0 dX12_could_52 rfl rfl ?_
          refine T_getI (pc := 53) fd_10_50 hw1553 dX12_could_53 ?_
          refine T_iconst (pc := 56) (v := -1) dX12_could_56 (by decide) ?_
          refine T_ixor (pc := 57) dX12_could_57 ?_
          refine T_iand (pc := 58) dX12_could_58 ?_
          refine T_iload_n (pc := 59) 2 dX12_could_59 rfl rfl ?_
          refine T_callSi (pc := 60) (rest := []) (Rn_V (pc := 60) (as := [.int p0, .int (x6 &&& ((zI s1 50) ^^^ (-1 : Int32))), .int p1]) (rest := []) (ctX12_need s1 p0 (x6 &&& ((zI s1 50) ^^^ (-1 : Int32))) p1) rfl rfl mv_X12_need hw2083 rfl ⟨Nat.le_of_ble_eq_true rfl, Nat.le_of_ble_eq_true rfl⟩ (Nat.le_of_ble_eq_true rfl) dX12_could_60 rfl) rfl (fun r7 => ?_)
          refine T_iload_n (pc := 63) 3 dX12_could_63 rfl rfl ?_
          refine T_icmp_gt (pc := 64) 92 dX12_could_64 (by decide) (fun _ => ?_) (fun _ => ?_)
          · refine T_iconst (pc := 92) (v := 0) dX12_could_92 (by decide) ?_
            exact T_ireturn (pc := 93) rfl dX12_could_93 rfl
          · refine T_aload_n (pc := 67) 0 dX12_could_67 rfl rfl ?_
            refine T_iload_n (pc := 68) 1 dX12_could_68 rfl rfl ?_
            refine T_aload_n (pc := 69) 0 dX12_could_69 rfl rfl ?_
            refine T_iload_n (pc := 70) 1 dX12_could_70 rfl rfl ?_
            refine T_callPi (pc := 71) (rest := [.int p0, .ref 10]) (Rn_V (pc := 71) (as := [.int p0]) (rest := [.int p0, .ref 10]) (ctX12_partsOf r7.2 p0) rfl rfl mv_X12_partsOf hw2060 rfl ⟨Nat.le_of_ble_eq_true rfl, Nat.le_of_ble_eq_true rfl⟩ (Nat.le_of_ble_eq_true rfl) dX12_could_71 rfl) rfl (fun x8 => ?_)
            refine T_aload_n (pc := 74) 0 dX12_could_74 rfl rfl ?_
            refine T_getI (pc := 75) fd_10_50 hw1553 dX12_could_75 ?_
            refine T_iand (pc := 78) dX12_could_78 ?_
            refine T_iload_n (pc := 79) 2 dX12_could_79 rfl rfl ?_
            refine T_callSi (pc := 80) (rest := []) (Rn_V (pc := 80) (as := [.int p0, .int (x8 &&& (zI r7.2 50)), .int p1]) (rest := []) (ctX12_need r7.2 p0 (x8 &&& (zI r7.2 50)) p1) rfl rfl mv_X12_need hw2083 rfl ⟨Nat.le_of_ble_eq_true rfl, Nat.le_of_ble_eq_true rfl⟩ (Nat.le_of_ble_eq_true rfl) dX12_could_80 rfl) rfl (fun r9 => ?_)
            refine T_iload (pc := 83) 4 dX12_could_83 rfl ?_
            refine T_icmp_gt (pc := 85) 92 dX12_could_85 (by decide) (fun _ => ?_) (fun _ => ?_)
            · refine T_iconst (pc := 92) (v := 0) dX12_could_92 (by decide) ?_
              exact T_ireturn (pc := 93) rfl dX12_could_93 rfl
            · refine T_iconst (pc := 88) (v := 1) dX12_could_88 (by decide) ?_
              refine T_goto (pc := 89) 93 dX12_could_89 (by decide) ?_
              exact T_ireturn (pc := 93) rfl dX12_could_93 rfl
        · refine T_iconst (pc := 43) (v := -1) dX12_could_43 (by decide) ?_
          exact T_ireturn (pc := 44) rfl dX12_could_44 rfl
set_option maxRecDepth 100000 in
set_option maxHeartbeats 4000000 in
theorem fX12_count_L69_T (σ : St) {kb : Int32 → Int32 → Option (Int32 × St)} (hkb : ∀ (w2 : Int32) (w3 : Int32), T kX12_count cSi σ 69 [(0, .ref 10), (2, .int w2), (3, .int w3)] [] (kb w2 w3)) (v2 : Int32) (v3 : Int32) : T kX12_count cSi σ 69 [(0, .ref 10), (2, .int v2), (3, .int v3)] [] (fX12_count_L69 kb σ v2 v3) := by
  unfold fX12_count_L69
  refine T_iload_n (pc := 69) 2 dX12_count_69 rfl rfl ?_
  refine T_aload_n (pc := 70) 0 dX12_count_70 rfl rfl ?_
  refine T_getI (pc := 71) fd_10_8 hw1511 dX12_count_71 ?_
  refine T_icmp_ge (pc := 74) 92 dX12_count_74 (by decide) (fun _ => ?_) (fun _ => ?_)
  · refine T_iload_n (pc := 92) 1 dX12_count_92 rfl rfl ?_
    exact T_ireturn (pc := 93) rfl dX12_count_93 rfl
  · refine T_iload_n (pc := 77) 1 dX12_count_77 rfl rfl ?_
    refine T_aload_n (pc := 78) 0 dX12_count_78 rfl rfl ?_
    refine T_getA (pc := 79) fd_10_21 hw1524 dX12_count_79 ?_
    refine T_iload_n (pc := 82) 2 dX12_count_82 rfl rfl ?_
    refine T_iald (pc := 83) rfl dX12_count_83 (fun x2 => ?_)
    refine T_iadd (pc := 84) dX12_count_84 ?_
    refine T_letI (fun x3 => ?_)
    refine T_istore_n (pc := 85) (lv' := [(0, .ref 10), (2, .int x3), (3, .int v3)]) dX12_count_85 rfl (Nat.le_of_ble_eq_true rfl) rfl ?_
    refine T_iinc (pc := 86) (y := 1) (lv' := [(0, .ref 10), (2, .int x3), (3, .int (v3 + (1 : Int32)))]) 2 dX12_count_86 (by decide) rfl (Nat.le_of_ble_eq_true rfl) rfl ?_
    refine T_goto (pc := 89) 69 dX12_count_89 (by decide) ?_
    exact hkb x3 (v3 + (1 : Int32))
set_option maxRecDepth 100000 in
set_option maxHeartbeats 4000000 in
theorem fX12_count_P69_T (σ : St) (v2 : Int32) (v3 : Int32) : T kX12_count cSi σ 69 [(0, .ref 10), (2, .int v2), (3, .int v3)] [] (fX12_count_P69 σ v2 v3) :=
  it_T (S := (fun _ : Int32 × Int32 => σ)) (lv := fun t : Int32 × Int32 => [(0, .ref 10), (2, .int t.1), (3, .int t.2)]) (st := fun _ => []) (fun kb hkb t => fX12_count_L69_T (hkb := fun v2 v3 => hkb (v2, v3)) σ t.1 t.2) FU (v2, v3)
set_option maxRecDepth 100000 in
set_option maxHeartbeats 4000000 in
theorem ctX12_count (σ : St) (p0 : Int32) : Ct yX12_count kX12_count [.ref 10, .int p0] σ cSi (fX12_count σ p0) := by
  refine Ct.of (by decide +kernel) rfl rfl (Nat.le_of_ble_eq_true rfl) ?_
  unfold fX12_count
  show T _ _ _ 0 [(0, .ref 10), (1, .int p0)] [] _
  refine T_aload_n (pc := 0) 0 dX12_count_0 rfl rfl ?_
  refine T_iconst (pc := 1) (v := 0) dX12_count_1 (by decide) ?_
  refine T_putI (pc := 2) fd_10_0 hw1503 dX12_count_2 ?_
  refine T_letS (fun s1 => ?_)
  refine T_iconst (pc := 5) (v := 0) dX12_count_5 (by decide) ?_
  refine T_istore_n (pc := 6) (lv' := [(0, .ref 10), (1, .int p0), (2, .int (0 : Int32))]) dX12_count_6 rfl (Nat.le_of_ble_eq_true rfl) rfl ?_
  refine T_iload_n (pc := 7) 1 dX12_count_7 rfl rfl ?_
  refine T_ite (fun h0 => ?_) (fun h0 => ?_)
  · refine T_tabIn (pc := 8) (off := 44) 52 dX12_count_8 (by rw [h0]; decide) (by rw [h0]; decide) (by rw [h0]; rfl) (by decide) ?_
    refine T_aload_n (pc := 52) 0 dX12_count_52 rfl rfl ?_
    refine T_getI (pc := 53) fd_10_8 hw1511 dX12_count_53 ?_
    exact T_ireturn (pc := 56) rfl dX12_count_56 rfl
  · refine T_ite (fun h1 => ?_) (fun h1 => ?_)
    · refine T_tabIn (pc := 8) (off := 49) 57 dX12_count_8 (by rw [h1]; decide) (by rw [h1]; decide) (by rw [h1]; rfl) (by decide) ?_
      refine T_aload_n (pc := 57) 0 dX12_count_57 rfl rfl ?_
      refine T_getI (pc := 58) fd_10_9 hw1512 dX12_count_58 ?_
      exact T_ireturn (pc := 61) rfl dX12_count_61 rfl
    · refine T_ite (fun h2 => ?_) (fun h2 => ?_)
      · refine T_tabIn (pc := 8) (off := 54) 62 dX12_count_8 (by rw [h2]; decide) (by rw [h2]; decide) (by rw [h2]; rfl) (by decide) ?_
        refine T_aload_n (pc := 62) 0 dX12_count_62 rfl rfl ?_
        refine T_getI (pc := 63) fd_10_10 hw1513 dX12_count_63 ?_
        exact T_ireturn (pc := 66) rfl dX12_count_66 rfl
      · refine T_ite (fun h3 => ?_) (fun h3 => ?_)
        · refine T_tabIn (pc := 8) (off := 59) 67 dX12_count_8 (by rw [h3]; decide) (by rw [h3]; decide) (by rw [h3]; rfl) (by decide) ?_
          refine T_iconst (pc := 67) (v := 0) dX12_count_67 (by decide) ?_
          refine T_istore_n (pc := 68) (lv' := [(0, .ref 10), (1, .int p0), (2, .int (0 : Int32)), (3, .int (0 : Int32))]) dX12_count_68 rfl (Nat.le_of_ble_eq_true rfl) rfl ?_
          refine T_pick (lv' := [(0, .ref 10), (2, .int (0 : Int32)), (3, .int (0 : Int32))]) [0, 2, 3] rfl ?_
          exact fX12_count_P69_T s1 (0 : Int32) (0 : Int32)
        · refine T_ite (fun h4 => ?_) (fun h4 => ?_)
          · refine T_tabIn (pc := 8) (off := 86) 94 dX12_count_8 (by rw [h4]; decide) (by rw [h4]; decide) (by rw [h4]; rfl) (by decide) ?_
            refine T_aload_n (pc := 94) 0 dX12_count_94 rfl rfl ?_
            refine T_getI (pc := 95) fd_10_7 hw1510 dX12_count_95 ?_
            exact T_ireturn (pc := 98) rfl dX12_count_98 rfl
          · refine T_ite (fun h5 => ?_) (fun h5 => ?_)
            · refine T_tabIn (pc := 8) (off := 91) 99 dX12_count_8 (by rw [h5]; decide) (by rw [h5]; decide) (by rw [h5]; rfl) (by decide) ?_
              refine T_aload_n (pc := 99) 0 dX12_count_99 rfl rfl ?_
              refine T_getI (pc := 100) fd_10_36 hw1539 dX12_count_100 ?_
              exact T_ireturn (pc := 103) rfl dX12_count_103 rfl
            · refine T_ite (fun h6 => ?_) (fun h6 => ?_)
              · refine T_tabIn (pc := 8) (off := 96) 104 dX12_count_8 (by rw [h6]; decide) (by rw [h6]; decide) (by rw [h6]; rfl) (by decide) ?_
                refine T_aload_n (pc := 104) 0 dX12_count_104 rfl rfl ?_
                refine T_getI (pc := 105) fd_10_50 hw1553 dX12_count_105 ?_
                exact T_ireturn (pc := 108) rfl dX12_count_108 rfl
              · refine T_tabOut (pc := 8) 109 dX12_count_8 (by have a0 := i32_ne (n := 0) h0 rfl; have a1 := i32_ne (n := 1) h1 rfl; have a2 := i32_ne (n := 2) h2 rfl; have a3 := i32_ne (n := 3) h3 rfl; have a4 := i32_ne (n := 4) h4 rfl; have a5 := i32_ne (n := 5) h5 rfl; have a6 := i32_ne (n := 6) h6 rfl; omega) (by decide) ?_
                refine T_iconst (pc := 109) (v := -1) dX12_count_109 (by decide) ?_
                exact T_ireturn (pc := 110) rfl dX12_count_110 rfl
