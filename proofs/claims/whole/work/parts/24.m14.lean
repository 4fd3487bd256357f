/-! methods X12_least .. X12_soon: by program (wip/gen) -/
def kX12_least : Ks := (cX12_least, RX12, some .int, 5, 121, 2)
def fX12_least (σ : St) (p0 : Int32) : Option (Int32 × St) :=
  (some (uI σ 30 (0 : Int32))).bind fun s1 => (fX12_isSmall s1 p0).bind fun r2 => if (bi r2.1) = 0 then (some ((-1 : Int32), r2.2))
  else ((fX12_layLeft r2.2).bind fun s3 => (rd (zA s3 74) 180009 (0 : Int32)).bind fun x4 => some (x4, s3))
set_option maxRecDepth 100000 in
set_option maxHeartbeats 4000000 in
theorem ctX12_least (σ : St) (p0 : Int32) : Ct yX12_least kX12_least [.ref 10, .int p0] σ cSi (fX12_least σ p0) := by
  refine Ct.of (by decide +kernel) rfl (Nat.le_of_ble_eq_true rfl) ?_
  unfold fX12_least
  show T _ _ _ 0 [(0, .ref 10), (1, .int p0)] [] _
  refine T_aload_n (pc := 0) 0 dX12_least_0 rfl rfl ?_
  refine T_iconst (pc := 1) (v := 0) dX12_least_1 (by decide) ?_
  refine T_putI (pc := 2) fd_10_0 hw1503 dX12_least_2 ?_
  refine T_letS (fun s1 => ?_)
  refine T_aload_n (pc := 5) 0 dX12_least_5 rfl rfl ?_
  refine T_iload_n (pc := 6) 1 dX12_least_6 rfl rfl ?_
  refine T_callSz (pc := 7) (rest := []) (Rn_V (pc := 7) (as := [.int p0]) (rest := []) (ctX12_isSmall s1 p0) rfl rfl mv_X12_isSmall hw1939 rfl ⟨Nat.le_of_ble_eq_true rfl, Nat.le_of_ble_eq_true rfl⟩ (Nat.le_of_ble_eq_true rfl) dX12_least_7 rfl) rfl (fun r2 => ?_)
  refine T_if_ne (pc := 10) 15 dX12_least_10 (by decide) (fun _ => ?_) (fun _ => ?_)
  · refine T_aload_n (pc := 15) 0 dX12_least_15 rfl rfl ?_
    refine T_callSv (pc := 16) (rest := []) (Rn_V (pc := 16) (as := []) (rest := []) (ctX12_layLeft r2.2) rfl rfl mv_X12_layLeft hw1947 rfl ⟨Nat.le_of_ble_eq_true rfl, Nat.le_of_ble_eq_true rfl⟩ (Nat.le_of_ble_eq_true rfl) dX12_least_16 rfl) rfl (fun s3 => ?_)
    refine T_aload_n (pc := 19) 0 dX12_least_19 rfl rfl ?_
    refine T_getA (pc := 20) fd_10_38 hw1541 dX12_least_20 ?_
    refine T_iconst (pc := 23) (v := 0) dX12_least_23 (by decide) ?_
    refine T_iald (pc := 24) rfl dX12_least_24 (fun x4 => ?_)
    exact T_ireturn (pc := 25) rfl dX12_least_25 rfl
  · refine T_iconst (pc := 13) (v := -1) dX12_least_13 (by decide) ?_
    exact T_ireturn (pc := 14) rfl dX12_least_14 rfl
def kX12_length : Ks := (cX12_length, RX12, some .int, 5, 122, 6)
def fX12_length_L66 (v1 : Int32) (v2 : Int32) (v3 : Int32) (k1 : St → Int32 → Option (Int32 × St)) (kb : St → Int32 → Int32 → Option (Int32 × St)) (σ : St) (v4 : Int32) (v5 : Int32) : Option (Int32 × St) :=
  if v3 ≤ v5 then (k1 σ v4)
  else (if v4 = 0 then ((fX12_isOf σ v5 v1).bind fun x7 => if (bi x7) = 0 then (kb σ (0 : Int32) (v5 + (1 : Int32)))
  else ((fX12_isSameCue σ v3 v5).bind fun x8 => if (bi x8) = 0 then (kb σ (0 : Int32) (v5 + (1 : Int32)))
  else ((fX12_kindOf σ v5 v1).bind fun r9 => if r9.1 = (5 : Int32) then (kb r9.2 (1 : Int32) (v5 + (1 : Int32)))
  else (kb r9.2 (0 : Int32) (v5 + (1 : Int32))))))
  else (kb σ (1 : Int32) (v5 + (1 : Int32))))
set_option maxRecDepth 100000 in
set_option maxHeartbeats 4000000 in
theorem fX12_length_L66_T (v1 : Int32) (v2 : Int32) (v3 : Int32) (σ : St) {k1 : St → Int32 → Option (Int32 × St)} {kb : St → Int32 → Int32 → Option (Int32 × St)} (hk1 : ∀ (σ' : St) (w4 : Int32), T kX12_length cSi σ' 121 [(0, .ref 10), (1, .int v1), (2, .int v2), (3, .int v3), (4, .int w4)] [] (k1 σ' w4)) (hkb : ∀ (σ' : St) (w4 : Int32) (w5 : Int32), T kX12_length cSi σ' 66 [(0, .ref 10), (1, .int v1), (2, .int v2), (3, .int v3), (4, .int w4), (5, .int w5)] [] (kb σ' w4 w5)) (v4 : Int32) (v5 : Int32) : T kX12_length cSi σ 66 [(0, .ref 10), (1, .int v1), (2, .int v2), (3, .int v3), (4, .int v4), (5, .int v5)] [] (fX12_length_L66 v1 v2 v3 k1 kb σ v4 v5) := by
  unfold fX12_length_L66
  refine T_iload (pc := 66) 5 dX12_length_66 rfl ?_
  refine T_iload_n (pc := 68) 3 dX12_length_68 rfl rfl ?_
  refine T_icmp_ge (pc := 69) 121 dX12_length_69 (by decide) (fun _ => ?_) (fun _ => ?_)
  · refine T_pick (lv' := [(0, .ref 10), (1, .int v1), (2, .int v2), (3, .int v3), (4, .int v4)]) [0, 1, 2, 3, 4] rfl ?_
    exact hk1 σ v4
  · refine T_iload (pc := 72) 4 dX12_length_72 rfl ?_
    refine T_if_ne (pc := 74) 108 dX12_length_74 (by decide) (fun _ => ?_) (fun _ => ?_)
    · refine T_iconst (pc := 108) (v := 1) dX12_length_108 (by decide) ?_
      refine T_goto (pc := 109) 113 dX12_length_109 (by decide) ?_
      refine T_istore (pc := 113) (lv' := [(0, .ref 10), (1, .int v1), (2, .int v2), (3, .int v3), (4, .int (1 : Int32)), (5, .int v5)]) dX12_length_113 (by decide) rfl ?_
      refine T_iinc (pc := 115) (y := 1) (lv' := [(0, .ref 10), (1, .int v1), (2, .int v2), (3, .int v3), (4, .int (1 : Int32)), (5, .int (v5 + (1 : Int32)))]) 5 dX12_length_115 (by decide) rfl (by decide) rfl ?_
      refine T_goto (pc := 118) 66 dX12_length_118 (by decide) ?_
      exact hkb σ (1 : Int32) (v5 + (1 : Int32))
    · refine T_aload_n (pc := 77) 0 dX12_length_77 rfl rfl ?_
      refine T_iload (pc := 78) 5 dX12_length_78 rfl ?_
      refine T_iload_n (pc := 80) 1 dX12_length_80 rfl rfl ?_
      refine T_callPz (pc := 81) (rest := []) (Rn_V (pc := 81) (as := [.int v5, .int v1]) (rest := []) (ctX12_isOf σ v5 v1) rfl rfl mv_X12_isOf hw1907 rfl ⟨Nat.le_of_ble_eq_true rfl, Nat.le_of_ble_eq_true rfl⟩ (Nat.le_of_ble_eq_true rfl) dX12_length_81 rfl) rfl (fun x7 => ?_)
      refine T_if_eq (pc := 84) 112 dX12_length_84 (by decide) (fun _ => ?_) (fun _ => ?_)
      · refine T_iconst (pc := 112) (v := 0) dX12_length_112 (by decide) ?_
        refine T_istore (pc := 113) (lv' := [(0, .ref 10), (1, .int v1), (2, .int v2), (3, .int v3), (4, .int (0 : Int32)), (5, .int v5)]) dX12_length_113 (by decide) rfl ?_
        refine T_iinc (pc := 115) (y := 1) (lv' := [(0, .ref 10), (1, .int v1), (2, .int v2), (3, .int v3), (4, .int (0 : Int32)), (5, .int (v5 + (1 : Int32)))]) 5 dX12_length_115 (by decide) rfl (by decide) rfl ?_
        refine T_goto (pc := 118) 66 dX12_length_118 (by decide) ?_
        exact hkb σ (0 : Int32) (v5 + (1 : Int32))
      · refine T_aload_n (pc := 87) 0 dX12_length_87 rfl rfl ?_
        refine T_iload_n (pc := 88) 3 dX12_length_88 rfl rfl ?_
        refine T_iload (pc := 89) 5 dX12_length_89 rfl ?_
        refine T_callPz (pc := 91) (rest := []) (Rn_V (pc := 91) (as := [.int v3, .int v5]) (rest := []) (ctX12_isSameCue σ v3 v5) rfl rfl mv_X12_isSameCue hw1984 rfl ⟨Nat.le_of_ble_eq_true rfl, Nat.le_of_ble_eq_true rfl⟩ (Nat.le_of_ble_eq_true rfl) dX12_length_91 rfl) rfl (fun x8 => ?_)
        refine T_if_eq (pc := 94) 112 dX12_length_94 (by decide) (fun _ => ?_) (fun _ => ?_)
        · refine T_iconst (pc := 112) (v := 0) dX12_length_112 (by decide) ?_
          refine T_istore (pc := 113) (lv' := [(0, .ref 10), (1, .int v1), (2, .int v2), (3, .int v3), (4, .int (0 : Int32)), (5, .int v5)]) dX12_length_113 (by decide) rfl ?_
          refine T_iinc (pc := 115) (y := 1) (lv' := [(0, .ref 10), (1, .int v1), (2, .int v2), (3, .int v3), (4, .int (0 : Int32)), (5, .int (v5 + (1 : Int32)))]) 5 dX12_length_115 (by decide) rfl (by decide) rfl ?_
          refine T_goto (pc := 118) 66 dX12_length_118 (by decide) ?_
          exact hkb σ (0 : Int32) (v5 + (1 : Int32))
        · refine T_aload_n (pc := 97) 0 dX12_length_97 rfl rfl ?_
          refine T_iload (pc := 98) 5 dX12_length_98 rfl ?_
          refine T_iload_n (pc := 100) 1 dX12_length_100 rfl rfl ?_
          refine T_callSi (pc := 101) (rest := []) (Rn_V (pc := 101) (as := [.int v5, .int v1]) (rest := []) (ctX12_kindOf σ v5 v1) rfl rfl mv_X12_kindOf hw1915 rfl ⟨Nat.le_of_ble_eq_true rfl, Nat.le_of_ble_eq_true rfl⟩ (Nat.le_of_ble_eq_true rfl) dX12_length_101 rfl) rfl (fun r9 => ?_)
          refine T_iconst (pc := 104) (v := 5) dX12_length_104 (by decide) ?_
          refine T_icmp_ne (pc := 105) 112 dX12_length_105 (by decide) (fun _ => ?_) (fun _ => ?_)
          · refine T_iconst (pc := 112) (v := 0) dX12_length_112 (by decide) ?_
            refine T_istore (pc := 113) (lv' := [(0, .ref 10), (1, .int v1), (2, .int v2), (3, .int v3), (4, .int (0 : Int32)), (5, .int v5)]) dX12_length_113 (by decide) rfl ?_
            refine T_iinc (pc := 115) (y := 1) (lv' := [(0, .ref 10), (1, .int v1), (2, .int v2), (3, .int v3), (4, .int (0 : Int32)), (5, .int (v5 + (1 : Int32)))]) 5 dX12_length_115 (by decide) rfl (by decide) rfl ?_
            refine T_goto (pc := 118) 66 dX12_length_118 (by decide) ?_
            exact hkb r9.2 (0 : Int32) (v5 + (1 : Int32))
          · refine T_iconst (pc := 108) (v := 1) dX12_length_108 (by decide) ?_
            refine T_goto (pc := 109) 113 dX12_length_109 (by decide) ?_
            refine T_istore (pc := 113) (lv' := [(0, .ref 10), (1, .int v1), (2, .int v2), (3, .int v3), (4, .int (1 : Int32)), (5, .int v5)]) dX12_length_113 (by decide) rfl ?_
            refine T_iinc (pc := 115) (y := 1) (lv' := [(0, .ref 10), (1, .int v1), (2, .int v2), (3, .int v3), (4, .int (1 : Int32)), (5, .int (v5 + (1 : Int32)))]) 5 dX12_length_115 (by decide) rfl (by decide) rfl ?_
            refine T_goto (pc := 118) 66 dX12_length_118 (by decide) ?_
            exact hkb r9.2 (1 : Int32) (v5 + (1 : Int32))
def fX12_length_P66 (v1 : Int32) (v2 : Int32) (v3 : Int32) (k1 : St → Int32 → Option (Int32 × St)) (σ : St) (v4 : Int32) (v5 : Int32) : Option (Int32 × St) := it (fun (kb : (St × Int32 × Int32) → Option (Int32 × St)) (t : St × Int32 × Int32) => fX12_length_L66 v1 v2 v3 k1 (fun σ v4 v5 => kb (σ, v4, v5)) t.1 t.2.1 t.2.2) FU (σ, v4, v5)
set_option maxRecDepth 100000 in
set_option maxHeartbeats 4000000 in
theorem fX12_length_P66_T (v1 : Int32) (v2 : Int32) (v3 : Int32) (σ : St) {k1 : St → Int32 → Option (Int32 × St)} (hk1 : ∀ (σ' : St) (w4 : Int32), T kX12_length cSi σ' 121 [(0, .ref 10), (1, .int v1), (2, .int v2), (3, .int v3), (4, .int w4)] [] (k1 σ' w4)) (v4 : Int32) (v5 : Int32) : T kX12_length cSi σ 66 [(0, .ref 10), (1, .int v1), (2, .int v2), (3, .int v3), (4, .int v4), (5, .int v5)] [] (fX12_length_P66 v1 v2 v3 k1 σ v4 v5) :=
  it_T (S := (fun t : St × Int32 × Int32 => t.1)) (lv := fun t : St × Int32 × Int32 => [(0, .ref 10), (1, .int v1), (2, .int v2), (3, .int v3), (4, .int t.2.1), (5, .int t.2.2)]) (st := fun _ => []) (fun kb hkb t => fX12_length_L66_T v1 v2 v3 (hk1 := hk1) (hkb := fun σ v4 v5 => hkb (σ, v4, v5)) t.1 t.2.1 t.2.2) FU (σ, v4, v5)
def fX12_length_L19 (v1 : Int32) (kb : St → Int32 → Int32 → Option (Int32 × St)) (σ : St) (v2 : Int32) (v3 : Int32) : Option (Int32 × St) :=
  if (128 : Int32) ≤ v3 then (some (v2, σ))
  else ((fX12_isOf σ v3 v1).bind fun x3 => if (bi x3) = 0 then (kb σ v2 (v3 + (1 : Int32)))
  else ((rd (zA σ 62) 144 v3).bind fun x4 => (some ((v2 + x4))).bind fun x5 => (fX12_kindOf σ v3 v1).bind fun r6 => if r6.1 = (5 : Int32) then (fX12_length_P66 v1 x5 v3 (fun s10 x11 => if x11 = 0 then ((rd (zA s10 61) 144 v3).bind fun x12 => (some ((x5 + x12))).bind fun x13 => kb s10 x13 (v3 + (1 : Int32)))
  else ((some ((x5 + (0 : Int32)))).bind fun x14 => kb s10 x14 (v3 + (1 : Int32)))) r6.2 (0 : Int32) (0 : Int32))
  else (kb r6.2 x5 (v3 + (1 : Int32)))))
set_option maxRecDepth 100000 in
set_option maxHeartbeats 4000000 in
theorem fX12_length_L19_T (v1 : Int32) (σ : St) {kb : St → Int32 → Int32 → Option (Int32 × St)} (hkb : ∀ (σ' : St) (w2 : Int32) (w3 : Int32), T kX12_length cSi σ' 19 [(0, .ref 10), (1, .int v1), (2, .int w2), (3, .int w3)] [] (kb σ' w2 w3)) (v2 : Int32) (v3 : Int32) : T kX12_length cSi σ 19 [(0, .ref 10), (1, .int v1), (2, .int v2), (3, .int v3)] [] (fX12_length_L19 v1 kb σ v2 v3) := by
  unfold fX12_length_L19
  refine T_iload_n (pc := 19) 3 dX12_length_19 rfl rfl ?_
  refine T_sipush (pc := 20) (v := 128) dX12_length_20 (by decide) ?_
  refine T_icmp_ge (pc := 23) 145 dX12_length_23 (by decide) (fun _ => ?_) (fun _ => ?_)
  · refine T_iload_n (pc := 145) 2 dX12_length_145 rfl rfl ?_
    exact T_ireturn (pc := 146) rfl dX12_length_146 rfl
  · refine T_aload_n (pc := 26) 0 dX12_length_26 rfl rfl ?_
    refine T_iload_n (pc := 27) 3 dX12_length_27 rfl rfl ?_
    refine T_iload_n (pc := 28) 1 dX12_length_28 rfl rfl ?_
    refine T_callPz (pc := 29) (rest := []) (Rn_V (pc := 29) (as := [.int v3, .int v1]) (rest := []) (ctX12_isOf σ v3 v1) rfl rfl mv_X12_isOf hw1907 rfl ⟨Nat.le_of_ble_eq_true rfl, Nat.le_of_ble_eq_true rfl⟩ (Nat.le_of_ble_eq_true rfl) dX12_length_29 rfl) rfl (fun x3 => ?_)
    refine T_if_ne (pc := 32) 38 dX12_length_32 (by decide) (fun _ => ?_) (fun _ => ?_)
    · refine T_iload_n (pc := 38) 2 dX12_length_38 rfl rfl ?_
      refine T_aload_n (pc := 39) 0 dX12_length_39 rfl rfl ?_
      refine T_getA (pc := 40) fd_10_23 hw1526 dX12_length_40 ?_
      refine T_iload_n (pc := 43) 3 dX12_length_43 rfl rfl ?_
      refine T_iald (pc := 44) rfl dX12_length_44 (fun x4 => ?_)
      refine T_iadd (pc := 45) dX12_length_45 ?_
      refine T_letI (fun x5 => ?_)
      refine T_istore_n (pc := 46) (lv' := [(0, .ref 10), (1, .int v1), (2, .int x5), (3, .int v3)]) dX12_length_46 rfl (by decide) rfl ?_
      refine T_aload_n (pc := 47) 0 dX12_length_47 rfl rfl ?_
      refine T_iload_n (pc := 48) 3 dX12_length_48 rfl rfl ?_
      refine T_iload_n (pc := 49) 1 dX12_length_49 rfl rfl ?_
      refine T_callSi (pc := 50) (rest := []) (Rn_V (pc := 50) (as := [.int v3, .int v1]) (rest := []) (ctX12_kindOf σ v3 v1) rfl rfl mv_X12_kindOf hw1915 rfl ⟨Nat.le_of_ble_eq_true rfl, Nat.le_of_ble_eq_true rfl⟩ (Nat.le_of_ble_eq_true rfl) dX12_length_50 rfl) rfl (fun r6 => ?_)
      refine T_iconst (pc := 53) (v := 5) dX12_length_53 (by decide) ?_
      refine T_icmp_eq (pc := 54) 60 dX12_length_54 (by decide) (fun _ => ?_) (fun _ => ?_)
      · refine T_iconst (pc := 60) (v := 0) dX12_length_60 (by decide) ?_
        refine T_istore (pc := 61) (lv' := [(0, .ref 10), (1, .int v1), (2, .int x5), (3, .int v3), (4, .int (0 : Int32))]) dX12_length_61 (by decide) rfl ?_
        refine T_iconst (pc := 63) (v := 0) dX12_length_63 (by decide) ?_
        refine T_istore (pc := 64) (lv' := [(0, .ref 10), (1, .int v1), (2, .int x5), (3, .int v3), (4, .int (0 : Int32)), (5, .int (0 : Int32))]) dX12_length_64 (by decide) rfl ?_
        refine fX12_length_P66_T v1 x5 v3 (hk1 := fun s10 x11 => ?_) r6.2 (0 : Int32) (0 : Int32)
        · refine T_iload_n (pc := 121) 2 dX12_length_121 rfl rfl ?_
          refine T_iload (pc := 122) 4 dX12_length_122 rfl ?_
          refine T_if_eq (pc := 124) 131 dX12_length_124 (by decide) (fun _ => ?_) (fun _ => ?_)
          · refine T_aload_n (pc := 131) 0 dX12_length_131 rfl rfl ?_
            refine T_getA (pc := 132) fd_10_22 hw1525 dX12_length_132 ?_
            refine T_iload_n (pc := 135) 3 dX12_length_135 rfl rfl ?_
            refine T_iald (pc := 136) rfl dX12_length_136 (fun x12 => ?_)
            refine T_iadd (pc := 137) dX12_length_137 ?_
            refine T_letI (fun x13 => ?_)
            refine T_istore_n (pc := 138) (lv' := [(0, .ref 10), (1, .int v1), (2, .int x13), (3, .int v3), (4, .int x11)]) dX12_length_138 rfl (by decide) rfl ?_
            refine T_iinc (pc := 139) (y := 1) (lv' := [(0, .ref 10), (1, .int v1), (2, .int x13), (3, .int (v3 + (1 : Int32))), (4, .int x11)]) 3 dX12_length_139 (by decide) rfl (by decide) rfl ?_
            refine T_goto (pc := 142) 19 dX12_length_142 (by decide) ?_
            refine T_pick (lv' := [(0, .ref 10), (1, .int v1), (2, .int x13), (3, .int (v3 + (1 : Int32)))]) [0, 1, 2, 3] rfl ?_
            exact hkb s10 x13 (v3 + (1 : Int32))
          · refine T_iconst (pc := 127) (v := 0) dX12_length_127 (by decide) ?_
            refine T_goto (pc := 128) 137 dX12_length_128 (by decide) ?_
            refine T_iadd (pc := 137) dX12_length_137 ?_
            refine T_letI (fun x14 => ?_)
            refine T_istore_n (pc := 138) (lv' := [(0, .ref 10), (1, .int v1), (2, .int x14), (3, .int v3), (4, .int x11)]) dX12_length_138 rfl (by decide) rfl ?_
            refine T_iinc (pc := 139) (y := 1) (lv' := [(0, .ref 10), (1, .int v1), (2, .int x14), (3, .int (v3 + (1 : Int32))), (4, .int x11)]) 3 dX12_length_139 (by decide) rfl (by decide) rfl ?_
            refine T_goto (pc := 142) 19 dX12_length_142 (by decide) ?_
            refine T_pick (lv' := [(0, .ref 10), (1, .int v1), (2, .int x14), (3, .int (v3 + (1 : Int32)))]) [0, 1, 2, 3] rfl ?_
            exact hkb s10 x14 (v3 + (1 : Int32))
      · refine T_goto (pc := 57) 139 dX12_length_57 (by decide) ?_
        refine T_iinc (pc := 139) (y := 1) (lv' := [(0, .ref 10), (1, .int v1), (2, .int x5), (3, .int (v3 + (1 : Int32)))]) 3 dX12_length_139 (by decide) rfl (by decide) rfl ?_
        refine T_goto (pc := 142) 19 dX12_length_142 (by decide) ?_
        exact hkb r6.2 x5 (v3 + (1 : Int32))
    · refine T_goto (pc := 35) 139 dX12_length_35 (by decide) ?_
      refine T_iinc (pc := 139) (y := 1) (lv' := [(0, .ref 10), (1, .int v1), (2, .int v2), (3, .int (v3 + (1 : Int32)))]) 3 dX12_length_139 (by decide) rfl (by decide) rfl ?_
      refine T_goto (pc := 142) 19 dX12_length_142 (by decide) ?_
      exact hkb σ v2 (v3 + (1 : Int32))
def fX12_length_P19 (v1 : Int32) (σ : St) (v2 : Int32) (v3 : Int32) : Option (Int32 × St) := it (fun (kb : (St × Int32 × Int32) → Option (Int32 × St)) (t : St × Int32 × Int32) => fX12_length_L19 v1 (fun σ v2 v3 => kb (σ, v2, v3)) t.1 t.2.1 t.2.2) FU (σ, v2, v3)
set_option maxRecDepth 100000 in
set_option maxHeartbeats 4000000 in
theorem fX12_length_P19_T (v1 : Int32) (σ : St) (v2 : Int32) (v3 : Int32) : T kX12_length cSi σ 19 [(0, .ref 10), (1, .int v1), (2, .int v2), (3, .int v3)] [] (fX12_length_P19 v1 σ v2 v3) :=
  it_T (S := (fun t : St × Int32 × Int32 => t.1)) (lv := fun t : St × Int32 × Int32 => [(0, .ref 10), (1, .int v1), (2, .int t.2.1), (3, .int t.2.2)]) (st := fun _ => []) (fun kb hkb t => fX12_length_L19_T v1 (hkb := fun σ v2 v3 => hkb (σ, v2, v3)) t.1 t.2.1 t.2.2) FU (σ, v2, v3)
def fX12_length (σ : St) (p0 : Int32) : Option (Int32 × St) :=
  (some (uI σ 30 (0 : Int32))).bind fun s1 => (fX12_areRolls s1 p0).bind fun x2 => if (bi x2) = 0 then (some ((-1 : Int32), s1))
  else (fX12_length_P19 p0 s1 (0 : Int32) (0 : Int32))
set_option maxRecDepth 100000 in
set_option maxHeartbeats 4000000 in
theorem ctX12_length (σ : St) (p0 : Int32) : Ct yX12_length kX12_length [.ref 10, .int p0] σ cSi (fX12_length σ p0) := by
  refine Ct.of (by decide +kernel) rfl (Nat.le_of_ble_eq_true rfl) ?_
  unfold fX12_length
  show T _ _ _ 0 [(0, .ref 10), (1, .int p0)] [] _
  refine T_aload_n (pc := 0) 0 dX12_length_0 rfl rfl ?_
  refine T_iconst (pc := 1) (v := 0) dX12_length_1 (by decide) ?_
  refine T_putI (pc := 2) fd_10_0 hw1503 dX12_length_2 ?_
  refine T_letS (fun s1 => ?_)
  refine T_aload_n (pc := 5) 0 dX12_length_5 rfl rfl ?_
  refine T_iload_n (pc := 6) 1 dX12_length_6 rfl rfl ?_
  refine T_callPz (pc := 7) (rest := []) (Rn_V (pc := 7) (as := [.int p0]) (rest := []) (ctX12_areRolls s1 p0) rfl rfl mv_X12_areRolls hw1911 rfl ⟨Nat.le_of_ble_eq_true rfl, Nat.le_of_ble_eq_true rfl⟩ (Nat.le_of_ble_eq_true rfl) dX12_length_7 rfl) rfl (fun x2 => ?_)
  refine T_if_ne (pc := 10) 15 dX12_length_10 (by decide) (fun _ => ?_) (fun _ => ?_)
  · refine T_iconst (pc := 15) (v := 0) dX12_length_15 (by decide) ?_
    refine T_istore_n (pc := 16) (lv' := [(0, .ref 10), (1, .int p0), (2, .int (0 : Int32))]) dX12_length_16 rfl (by decide) rfl ?_
    refine T_iconst (pc := 17) (v := 0) dX12_length_17 (by decide) ?_
    refine T_istore_n (pc := 18) (lv' := [(0, .ref 10), (1, .int p0), (2, .int (0 : Int32)), (3, .int (0 : Int32))]) dX12_length_18 rfl (by decide) rfl ?_
    exact fX12_length_P19_T p0 s1 (0 : Int32) (0 : Int32)
  · refine T_iconst (pc := 13) (v := -1) dX12_length_13 (by decide) ?_
    exact T_ireturn (pc := 14) rfl dX12_length_14 rfl

def kX12_begin_57 : Ks := (cX12_begin, RX12, none, 0, 0, 4)
def fX12_begin_57 (σ : St) (p1 : Int32) (p2 : Int32) : Option St :=
  (some (uR σ 3 57)).bind fun s1 => (some (uI s1 35 p1)).bind fun s2 => (some (uI s2 36 p2)).bind fun s3 => (some (uI s3 37 (0 : Int32))).bind fun s4 => (some (uI s4 38 (-1 : Int32))).bind fun s5 => some s5
set_option maxRecDepth 100000 in
set_option maxHeartbeats 4000000 in
theorem ctX12_begin_57 (σ : St) (p1 : Int32) (p2 : Int32) : Ct yX12_begin kX12_begin_57 [.ref 10, .ref 57, .int p1, .int p2] σ cSv (fX12_begin_57 σ p1 p2) := by
  refine Ct.of (by decide +kernel) rfl (Nat.le_of_ble_eq_true rfl) ?_
  unfold fX12_begin_57
  show T _ _ _ 0 [(0, .ref 10), (1, .ref 57), (2, .int p1), (3, .int p2)] [] _
  refine T_aload_n (pc := 0) 0 dX12_begin_0 rfl rfl ?_
  refine T_aload_n (pc := 1) 1 dX12_begin_1 rfl rfl ?_
  refine T_putR (pc := 2) fd_10_6 hw1509 dX12_begin_2 rfl ?_
  refine T_letS (fun s1 => ?_)
  refine T_aload_n (pc := 5) 0 dX12_begin_5 rfl rfl ?_
  refine T_iload_n (pc := 6) 2 dX12_begin_6 rfl rfl ?_
  refine T_putI (pc := 7) fd_10_11 hw1514 dX12_begin_7 ?_
  refine T_letS (fun s2 => ?_)
  refine T_aload_n (pc := 10) 0 dX12_begin_10 rfl rfl ?_
  refine T_iload_n (pc := 11) 3 dX12_begin_11 rfl rfl ?_
  refine T_putI (pc := 12) fd_10_12 hw1515 dX12_begin_12 ?_
  refine T_letS (fun s3 => ?_)
  refine T_aload_n (pc := 15) 0 dX12_begin_15 rfl rfl ?_
  refine T_iconst (pc := 16) (v := 0) dX12_begin_16 (by decide) ?_
  refine T_putI (pc := 17) fd_10_13 hw1516 dX12_begin_17 ?_
  refine T_letS (fun s4 => ?_)
  refine T_aload_n (pc := 20) 0 dX12_begin_20 rfl rfl ?_
  refine T_iconst (pc := 21) (v := -1) dX12_begin_21 (by decide) ?_
  refine T_putI (pc := 22) fd_10_14 hw1517 dX12_begin_22 ?_
  refine T_letS (fun s5 => ?_)
  exact T_return (pc := 25) rfl dX12_begin_25 rfl
def kX12_goThrough_57 : Ks := (cX12_goThrough, RX12, none, 442, 10194, 4)
def fX12_goThrough_57_L32 (k1 : St → Option St) (kb : St → Option St) (σ : St) : Option St :=
  if (zI σ 38) = (-1 : Int32) then ((fX12_look σ).bind fun r7 => if r7.1 = (59 : Int32) then ((some (uI r7.2 37 ((zI r7.2 37) + (1 : Int32)))).bind fun s8 => (fX12_clause s8).bind fun s9 => kb s9)
  else (k1 r7.2))
  else (k1 σ)
set_option maxRecDepth 100000 in
set_option maxHeartbeats 4000000 in
theorem fX12_goThrough_57_L32_T (σ : St) {k1 : St → Option St} {kb : St → Option St} (hk1 : ∀ (σ' : St), T kX12_goThrough_57 cSv σ' 66 [(0, .ref 10)] [] (k1 σ')) (hkb : ∀ (σ' : St), T kX12_goThrough_57 cSv σ' 32 [(0, .ref 10)] [] (kb σ')) : T kX12_goThrough_57 cSv σ 32 [(0, .ref 10)] [] (fX12_goThrough_57_L32 k1 kb σ) := by
  unfold fX12_goThrough_57_L32
  refine T_aload_n (pc := 32) 0 dX12_goThrough_32 rfl rfl ?_
  refine T_getI (pc := 33) fd_10_14 hw1517 dX12_goThrough_33 ?_
  refine T_iconst (pc := 36) (v := -1) dX12_goThrough_36 (by decide) ?_
  refine T_icmp_ne (pc := 37) 66 dX12_goThrough_37 (by decide) (fun _ => ?_) (fun _ => ?_)
  · exact hk1 σ
  · refine T_aload_n (pc := 40) 0 dX12_goThrough_40 rfl rfl ?_
    refine T_callSi (pc := 41) (rest := []) (Rn_V (pc := 41) (as := []) (rest := []) (ctX12_look σ) rfl rfl mv_X12_look hw1704 rfl ⟨Nat.le_of_ble_eq_true rfl, Nat.le_of_ble_eq_true rfl⟩ (Nat.le_of_ble_eq_true rfl) dX12_goThrough_41 rfl) rfl (fun r7 => ?_)
    refine T_bipush (pc := 44) (v := 59) dX12_goThrough_44 (by decide) ?_
    refine T_icmp_ne (pc := 46) 66 dX12_goThrough_46 (by decide) (fun _ => ?_) (fun _ => ?_)
    · exact hk1 r7.2
    · refine T_aload_n (pc := 49) 0 dX12_goThrough_49 rfl rfl ?_
      refine T_dup_a (pc := 50) dX12_goThrough_50 ?_
      refine T_getI (pc := 51) fd_10_13 hw1516 dX12_goThrough_51 ?_
      refine T_iconst (pc := 54) (v := 1) dX12_goThrough_54 (by decide) ?_
      refine T_iadd (pc := 55) dX12_goThrough_55 ?_
      refine T_putI (pc := 56) fd_10_13 hw1516 dX12_goThrough_56 ?_
      refine T_letS (fun s8 => ?_)
      refine T_aload_n (pc := 59) 0 dX12_goThrough_59 rfl rfl ?_
      refine T_callSv (pc := 60) (rest := []) (Rn_V (pc := 60) (as := []) (rest := []) (ctX12_clause s8) rfl rfl mv_X12_clause hw1739 rfl ⟨Nat.le_of_ble_eq_true rfl, Nat.le_of_ble_eq_true rfl⟩ (Nat.le_of_ble_eq_true rfl) dX12_goThrough_60 rfl) rfl (fun s9 => ?_)
      refine T_goto (pc := 63) 32 dX12_goThrough_63 (by decide) ?_
      exact hkb s9
def fX12_goThrough_57_P32 (k1 : St → Option St) (σ : St) : Option St := it (fun (kb : St → Option St) (t : St) => fX12_goThrough_57_L32 k1 (fun σ => kb σ) t) FU σ
set_option maxRecDepth 100000 in
set_option maxHeartbeats 4000000 in
theorem fX12_goThrough_57_P32_T (σ : St) {k1 : St → Option St} (hk1 : ∀ (σ' : St), T kX12_goThrough_57 cSv σ' 66 [(0, .ref 10)] [] (k1 σ')) : T kX12_goThrough_57 cSv σ 32 [(0, .ref 10)] [] (fX12_goThrough_57_P32 k1 σ) :=
  it_T (S := (fun t : St => t)) (lv := fun t : St => [(0, .ref 10)]) (st := fun _ => []) (fun kb hkb t => fX12_goThrough_57_L32_T (hk1 := hk1) (hkb := fun σ => hkb σ) t) FU σ
def fX12_goThrough_57 (σ : St) (p1 : Int32) (p2 : Int32) : Option St :=
  (fX12_begin_57 σ p1 p2).bind fun s1 => (some (uI s1 40 (121 : Int32))).bind fun s2 => (some (uI s2 39 (0 : Int32))).bind fun s3 => (some (uI s3 42 (0 : Int32))).bind fun s4 => (some (uI s4 41 (0 : Int32))).bind fun s5 => (fX12_clause s5).bind fun s6 => fX12_goThrough_57_P32 (fun s10 => if (zI s10 38) = (-1 : Int32) then ((fX12_look s10).bind fun r11 => if r11.1 = (-1 : Int32) then (some r11.2)
  else ((fX12_fails r11.2).bind fun r12 => some r12.2))
  else (some s10)) s6
set_option maxRecDepth 100000 in
set_option maxHeartbeats 4000000 in
theorem ctX12_goThrough_57 (σ : St) (p1 : Int32) (p2 : Int32) : Ct yX12_goThrough kX12_goThrough_57 [.ref 10, .ref 57, .int p1, .int p2] σ cSv (fX12_goThrough_57 σ p1 p2) := by
  refine Ct.of (by decide +kernel) rfl (Nat.le_of_ble_eq_true rfl) ?_
  unfold fX12_goThrough_57
  show T _ _ _ 0 [(0, .ref 10), (1, .ref 57), (2, .int p1), (3, .int p2)] [] _
  refine T_aload_n (pc := 0) 0 dX12_goThrough_0 rfl rfl ?_
  refine T_aload_n (pc := 1) 1 dX12_goThrough_1 rfl rfl ?_
  refine T_iload_n (pc := 2) 2 dX12_goThrough_2 rfl rfl ?_
  refine T_iload_n (pc := 3) 3 dX12_goThrough_3 rfl rfl ?_
  refine T_callSv (pc := 4) (rest := []) (Rn_V (pc := 4) (as := [.ref 57, .int p1, .int p2]) (rest := []) (ctX12_begin_57 σ p1 p2) rfl rfl mv_X12_begin hw1696 rfl ⟨Nat.le_of_ble_eq_true rfl, Nat.le_of_ble_eq_true rfl⟩ (Nat.le_of_ble_eq_true rfl) dX12_goThrough_4 rfl) rfl (fun s1 => ?_)
  refine T_aload_n (pc := 7) 0 dX12_goThrough_7 rfl rfl ?_
  refine T_bipush (pc := 8) (v := 121) dX12_goThrough_8 (by decide) ?_
  refine T_putI (pc := 10) fd_10_16 hw1519 dX12_goThrough_10 ?_
  refine T_letS (fun s2 => ?_)
  refine T_aload_n (pc := 13) 0 dX12_goThrough_13 rfl rfl ?_
  refine T_iconst (pc := 14) (v := 0) dX12_goThrough_14 (by decide) ?_
  refine T_putI (pc := 15) fd_10_15 hw1518 dX12_goThrough_15 ?_
  refine T_letS (fun s3 => ?_)
  refine T_aload_n (pc := 18) 0 dX12_goThrough_18 rfl rfl ?_
  refine T_iconst (pc := 19) (v := 0) dX12_goThrough_19 (by decide) ?_
  refine T_putZ (pc := 20) fd_10_20 hw1523 dX12_goThrough_20 rfl rfl ?_
  refine T_letS (fun s4 => ?_)
  refine T_aload_n (pc := 23) 0 dX12_goThrough_23 rfl rfl ?_
  refine T_iconst (pc := 24) (v := 0) dX12_goThrough_24 (by decide) ?_
  refine T_putI (pc := 25) fd_10_17 hw1520 dX12_goThrough_25 ?_
  refine T_letS (fun s5 => ?_)
  refine T_aload_n (pc := 28) 0 dX12_goThrough_28 rfl rfl ?_
  refine T_callSv (pc := 29) (rest := []) (Rn_V (pc := 29) (as := []) (rest := []) (ctX12_clause s5) rfl rfl mv_X12_clause hw1739 rfl ⟨Nat.le_of_ble_eq_true rfl, Nat.le_of_ble_eq_true rfl⟩ (Nat.le_of_ble_eq_true rfl) dX12_goThrough_29 rfl) rfl (fun s6 => ?_)
  refine T_pick (lv' := [(0, .ref 10)]) [0] rfl ?_
  refine fX12_goThrough_57_P32_T (hk1 := fun s10 => ?_) s6
  · refine T_aload_n (pc := 66) 0 dX12_goThrough_66 rfl rfl ?_
    refine T_getI (pc := 67) fd_10_14 hw1517 dX12_goThrough_67 ?_
    refine T_iconst (pc := 70) (v := -1) dX12_goThrough_70 (by decide) ?_
    refine T_icmp_ne (pc := 71) 87 dX12_goThrough_71 (by decide) (fun _ => ?_) (fun _ => ?_)
    · exact T_return (pc := 87) rfl dX12_goThrough_87 rfl
    · refine T_aload_n (pc := 74) 0 dX12_goThrough_74 rfl rfl ?_
      refine T_callSi (pc := 75) (rest := []) (Rn_V (pc := 75) (as := []) (rest := []) (ctX12_look s10) rfl rfl mv_X12_look hw1704 rfl ⟨Nat.le_of_ble_eq_true rfl, Nat.le_of_ble_eq_true rfl⟩ (Nat.le_of_ble_eq_true rfl) dX12_goThrough_75 rfl) rfl (fun r11 => ?_)
      refine T_iconst (pc := 78) (v := -1) dX12_goThrough_78 (by decide) ?_
      refine T_icmp_eq (pc := 79) 87 dX12_goThrough_79 (by decide) (fun _ => ?_) (fun _ => ?_)
      · exact T_return (pc := 87) rfl dX12_goThrough_87 rfl
      · refine T_aload_n (pc := 82) 0 dX12_goThrough_82 rfl rfl ?_
        refine T_callSz (pc := 83) (rest := []) (Rn_V (pc := 83) (as := []) (rest := []) (ctX12_fails r11.2) rfl rfl mv_X12_fails hw1708 rfl ⟨Nat.le_of_ble_eq_true rfl, Nat.le_of_ble_eq_true rfl⟩ (Nat.le_of_ble_eq_true rfl) dX12_goThrough_83 rfl) rfl (fun r12 => ?_)
        refine T_pop_i (pc := 86) dX12_goThrough_86 ?_
        exact T_return (pc := 87) rfl dX12_goThrough_87 rfl
def kX12_worthOf : Ks := (cX12_worthOf, RX12, some .int, 443, 10217, 8)
def fX12_worthOf_L6 (v1 : Int32) (v2 : Int32) (v3 : Int32) (v4 : Int32) (v5 : Int32) (k1 : Int32 → Option (Int32 × St)) (kb : Int32 → Int32 → Option (Int32 × St)) (σ : St) (v6 : Int32) (v7 : Int32) : Option (Int32 × St) :=
  if v4 ≤ v7 then (k1 v6)
  else ((rd (zA σ 56) 1800 ((((200 : Int32) * v2) + v3) + v7)).bind fun x1 => (fX12_isAmong_202 x1).bind fun x2 => if (bi x2) = 0 then ((some ((v6 + (0 : Int32)))).bind fun x3 => kb x3 (v7 + (1 : Int32)))
  else ((some ((v6 + (1 : Int32)))).bind fun x4 => kb x4 (v7 + (1 : Int32))))
set_option maxRecDepth 100000 in
set_option maxHeartbeats 4000000 in
theorem fX12_worthOf_L6_T (v1 : Int32) (v2 : Int32) (v3 : Int32) (v4 : Int32) (v5 : Int32) (σ : St) {k1 : Int32 → Option (Int32 × St)} {kb : Int32 → Int32 → Option (Int32 × St)} (hk1 : ∀ (w6 : Int32), T kX12_worthOf cSi σ 53 [(0, .ref 10), (1, .int v1), (2, .int v2), (3, .int v3), (4, .int v4), (5, .int v5), (6, .int w6)] [] (k1 w6)) (hkb : ∀ (w6 : Int32) (w7 : Int32), T kX12_worthOf cSi σ 6 [(0, .ref 10), (1, .int v1), (2, .int v2), (3, .int v3), (4, .int v4), (5, .int v5), (6, .int w6), (7, .int w7)] [] (kb w6 w7)) (v6 : Int32) (v7 : Int32) : T kX12_worthOf cSi σ 6 [(0, .ref 10), (1, .int v1), (2, .int v2), (3, .int v3), (4, .int v4), (5, .int v5), (6, .int v6), (7, .int v7)] [] (fX12_worthOf_L6 v1 v2 v3 v4 v5 k1 kb σ v6 v7) := by
  unfold fX12_worthOf_L6
  refine T_iload (pc := 6) 7 dX12_worthOf_6 rfl ?_
  refine T_iload (pc := 8) 4 dX12_worthOf_8 rfl ?_
  refine T_icmp_ge (pc := 10) 53 dX12_worthOf_10 (by decide) (fun _ => ?_) (fun _ => ?_)
  · refine T_pick (lv' := [(0, .ref 10), (1, .int v1), (2, .int v2), (3, .int v3), (4, .int v4), (5, .int v5), (6, .int v6)]) [0, 1, 2, 3, 4, 5, 6] rfl ?_
    exact hk1 v6
  · refine T_iload (pc := 13) 6 dX12_worthOf_13 rfl ?_
    refine T_ldcS (pc := 15) 202 (fun _ _ _ _ h => h.2.1.2.2) dX12_worthOf_15 ?_
    refine T_aload_n (pc := 18) 0 dX12_worthOf_18 rfl rfl ?_
    refine T_getA (pc := 19) fd_10_2 hw1505 dX12_worthOf_19 ?_
    refine T_sipush (pc := 22) (v := 200) dX12_worthOf_22 (by decide) ?_
    refine T_iload_n (pc := 25) 2 dX12_worthOf_25 rfl rfl ?_
    refine T_imul (pc := 26) dX12_worthOf_26 ?_
    refine T_iload_n (pc := 27) 3 dX12_worthOf_27 rfl rfl ?_
    refine T_iadd (pc := 28) dX12_worthOf_28 ?_
    refine T_iload (pc := 29) 7 dX12_worthOf_29 rfl ?_
    refine T_iadd (pc := 31) dX12_worthOf_31 ?_
    refine T_bald (pc := 32) rfl dX12_worthOf_32 (fun x1 => ?_)
    refine T_callPz (pc := 33) (rest := [.int v6]) (Rn_S (pc := 33) (as := [.ref 202, .int x1]) (rest := [.int v6]) (ctX12_isAmong_202 σ x1) ms_X12_isAmong hw1743 rfl ⟨Nat.le_of_ble_eq_true rfl, Nat.le_of_ble_eq_true rfl⟩ (Nat.le_of_ble_eq_true rfl) dX12_worthOf_33 rfl) rfl (fun x2 => ?_)
    refine T_if_eq (pc := 36) 43 dX12_worthOf_36 (by decide) (fun _ => ?_) (fun _ => ?_)
    · refine T_iconst (pc := 43) (v := 0) dX12_worthOf_43 (by decide) ?_
      refine T_iadd (pc := 44) dX12_worthOf_44 ?_
      refine T_letI (fun x3 => ?_)
      refine T_istore (pc := 45) (lv' := [(0, .ref 10), (1, .int v1), (2, .int v2), (3, .int v3), (4, .int v4), (5, .int v5), (6, .int x3), (7, .int v7)]) dX12_worthOf_45 (by decide) rfl ?_
      refine T_iinc (pc := 47) (y := 1) (lv' := [(0, .ref 10), (1, .int v1), (2, .int v2), (3, .int v3), (4, .int v4), (5, .int v5), (6, .int x3), (7, .int (v7 + (1 : Int32)))]) 7 dX12_worthOf_47 (by decide) rfl (by decide) rfl ?_
      refine T_goto (pc := 50) 6 dX12_worthOf_50 (by decide) ?_
      exact hkb x3 (v7 + (1 : Int32))
    · refine T_iconst (pc := 39) (v := 1) dX12_worthOf_39 (by decide) ?_
      refine T_goto (pc := 40) 44 dX12_worthOf_40 (by decide) ?_
      refine T_iadd (pc := 44) dX12_worthOf_44 ?_
      refine T_letI (fun x4 => ?_)
      refine T_istore (pc := 45) (lv' := [(0, .ref 10), (1, .int v1), (2, .int v2), (3, .int v3), (4, .int v4), (5, .int v5), (6, .int x4), (7, .int v7)]) dX12_worthOf_45 (by decide) rfl ?_
      refine T_iinc (pc := 47) (y := 1) (lv' := [(0, .ref 10), (1, .int v1), (2, .int v2), (3, .int v3), (4, .int v4), (5, .int v5), (6, .int x4), (7, .int (v7 + (1 : Int32)))]) 7 dX12_worthOf_47 (by decide) rfl (by decide) rfl ?_
      refine T_goto (pc := 50) 6 dX12_worthOf_50 (by decide) ?_
      exact hkb x4 (v7 + (1 : Int32))
def fX12_worthOf_P6 (v1 : Int32) (v2 : Int32) (v3 : Int32) (v4 : Int32) (v5 : Int32) (k1 : Int32 → Option (Int32 × St)) (σ : St) (v6 : Int32) (v7 : Int32) : Option (Int32 × St) := it (fun (kb : (Int32 × Int32) → Option (Int32 × St)) (t : Int32 × Int32) => fX12_worthOf_L6 v1 v2 v3 v4 v5 k1 (fun v6 v7 => kb (v6, v7)) σ t.1 t.2) FU (v6, v7)
set_option maxRecDepth 100000 in
set_option maxHeartbeats 4000000 in
theorem fX12_worthOf_P6_T (v1 : Int32) (v2 : Int32) (v3 : Int32) (v4 : Int32) (v5 : Int32) (σ : St) {k1 : Int32 → Option (Int32 × St)} (hk1 : ∀ (w6 : Int32), T kX12_worthOf cSi σ 53 [(0, .ref 10), (1, .int v1), (2, .int v2), (3, .int v3), (4, .int v4), (5, .int v5), (6, .int w6)] [] (k1 w6)) (v6 : Int32) (v7 : Int32) : T kX12_worthOf cSi σ 6 [(0, .ref 10), (1, .int v1), (2, .int v2), (3, .int v3), (4, .int v4), (5, .int v5), (6, .int v6), (7, .int v7)] [] (fX12_worthOf_P6 v1 v2 v3 v4 v5 k1 σ v6 v7) :=
  it_T (S := (fun _ : Int32 × Int32 => σ)) (lv := fun t : Int32 × Int32 => [(0, .ref 10), (1, .int v1), (2, .int v2), (3, .int v3), (4, .int v4), (5, .int v5), (6, .int t.1), (7, .int t.2)]) (st := fun _ => []) (fun kb hkb t => fX12_worthOf_L6_T v1 v2 v3 v4 v5 (hk1 := hk1) (hkb := fun v6 v7 => hkb (v6, v7)) σ t.1 t.2) FU (v6, v7)
def fX12_worthOf (σ : St) (p0 : Int32) (p1 : Int32) (p2 : Int32) (p3 : Int32) (p4 : Int32) : Option (Int32 × St) :=
  fX12_worthOf_P6 p0 p1 p2 p3 p4 (fun x5 => wr 128 (110 : Int32) ((some (uA σ 59 (upd (zA σ 59) (Int32.toNatClampNeg (110 : Int32)) p3))).bind fun s6 => wr 128 (118 : Int32) ((some (uA s6 59 (upd (zA s6 59) (Int32.toNatClampNeg (118 : Int32)) x5))).bind fun s7 => (rd (zA s7 56) 1800 (((200 : Int32) * p1) + p2)).bind fun x8 => wr 128 (102 : Int32) ((some (uA s7 59 (upd (zA s7 59) (Int32.toNatClampNeg (102 : Int32)) ((x8 - (97 : Int32)) + (1 : Int32))))).bind fun s9 => (rd (zA s9 56) 1800 (((((200 : Int32) * p1) + p2) + p3) - (1 : Int32))).bind fun x10 => wr 128 (108 : Int32) ((some (uA s9 59 (upd (zA s9 59) (Int32.toNatClampNeg (108 : Int32)) ((x10 - (97 : Int32)) + (1 : Int32))))).bind fun s11 => wr 128 (119 : Int32) ((some (uA s11 59 (upd (zA s11 59) (Int32.toNatClampNeg (119 : Int32)) p4))).bind fun s12 => (rd (zA s12 58) 4 p0).bind fun x13 => (fX12_goThrough_57 s12 ((200 : Int32) * p0) x13).bind fun s14 => (fJ9_min_7cf53 (100 : Int32) (zI s14 41)).bind fun x15 => (fJ9_max_7cf53 (0 : Int32) x15).bind fun x16 => some (x16, s14))))))) σ (0 : Int32) (0 : Int32)
set_option maxRecDepth 100000 in
set_option maxHeartbeats 4000000 in
theorem ctX12_worthOf (σ : St) (p0 : Int32) (p1 : Int32) (p2 : Int32) (p3 : Int32) (p4 : Int32) : Ct yX12_worthOf kX12_worthOf [.ref 10, .int p0, .int p1, .int p2, .int p3, .int p4] σ cSi (fX12_worthOf σ p0 p1 p2 p3 p4) := by
  refine Ct.of (by decide +kernel) rfl (Nat.le_of_ble_eq_true rfl) ?_
  unfold fX12_worthOf
  show T _ _ _ 0 [(0, .ref 10), (1, .int p0), (2, .int p1), (3, .int p2), (4, .int p3), (5, .int p4)] [] _
  refine T_iconst (pc := 0) (v := 0) dX12_worthOf_0 (by decide) ?_
  refine T_istore (pc := 1) (lv' := [(0, .ref 10), (1, .int p0), (2, .int p1), (3, .int p2), (4, .int p3), (5, .int p4), (6, .int (0 : Int32))]) dX12_worthOf_1 (by decide) rfl ?_
  refine T_iconst (pc := 3) (v := 0) dX12_worthOf_3 (by decide) ?_
  refine T_istore (pc := 4) (lv' := [(0, .ref 10), (1, .int p0), (2, .int p1), (3, .int p2), (4, .int p3), (5, .int p4), (6, .int (0 : Int32)), (7, .int (0 : Int32))]) dX12_worthOf_4 (by decide) rfl ?_
  refine fX12_worthOf_P6_T p0 p1 p2 p3 p4 (hk1 := fun x5 => ?_) σ (0 : Int32) (0 : Int32)
  · refine T_aload_n (pc := 53) 0 dX12_worthOf_53 rfl rfl ?_
    refine T_getA (pc := 54) fd_10_5 hw1508 dX12_worthOf_54 ?_
    refine T_bipush (pc := 57) (v := 110) dX12_worthOf_57 (by decide) ?_
    refine T_iload (pc := 59) 4 dX12_worthOf_59 rfl ?_
    refine T_iast (pc := 61) rfl dX12_worthOf_61 ?_
    refine T_letS (fun s6 => ?_)
    refine T_aload_n (pc := 62) 0 dX12_worthOf_62 rfl rfl ?_
    refine T_getA (pc := 63) fd_10_5 hw1508 dX12_worthOf_63 ?_
    refine T_bipush (pc := 66) (v := 118) dX12_worthOf_66 (by decide) ?_
    refine T_iload (pc := 68) 6 dX12_worthOf_68 rfl ?_
    refine T_iast (pc := 70) rfl dX12_worthOf_70 ?_
    refine T_letS (fun s7 => ?_)
    refine T_aload_n (pc := 71) 0 dX12_worthOf_71 rfl rfl ?_
    refine T_getA (pc := 72) fd_10_5 hw1508 dX12_worthOf_72 ?_
    refine T_bipush (pc := 75) (v := 102) dX12_worthOf_75 (by decide) ?_
    refine T_aload_n (pc := 77) 0 dX12_worthOf_77 rfl rfl ?_
    refine T_getA (pc := 78) fd_10_2 hw1505 dX12_worthOf_78 ?_
    refine T_sipush (pc := 81) (v := 200) dX12_worthOf_81 (by decide) ?_
    refine T_iload_n (pc := 84) 2 dX12_worthOf_84 rfl rfl ?_
    refine T_imul (pc := 85) dX12_worthOf_85 ?_
    refine T_iload_n (pc := 86) 3 dX12_worthOf_86 rfl rfl ?_
    refine T_iadd (pc := 87) dX12_worthOf_87 ?_
    refine T_bald (pc := 88) rfl dX12_worthOf_88 (fun x8 => ?_)
    refine T_bipush (pc := 89) (v := 97) dX12_worthOf_89 (by decide) ?_
    refine T_isub (pc := 91) dX12_worthOf_91 ?_
    refine T_iconst (pc := 92) (v := 1) dX12_worthOf_92 (by decide) ?_
    refine T_iadd (pc := 93) dX12_worthOf_93 ?_
    refine T_iast (pc := 94) rfl dX12_worthOf_94 ?_
    refine T_letS (fun s9 => ?_)
    refine T_aload_n (pc := 95) 0 dX12_worthOf_95 rfl rfl ?_
    refine T_getA (pc := 96) fd_10_5 hw1508 dX12_worthOf_96 ?_
    refine T_bipush (pc := 99) (v := 108) dX12_worthOf_99 (by decide) ?_
    refine T_aload_n (pc := 101) 0 dX12_worthOf_101 rfl rfl ?_
    refine T_getA (pc := 102) fd_10_2 hw1505 dX12_worthOf_102 ?_
    refine T_sipush (pc := 105) (v := 200) dX12_worthOf_105 (by decide) ?_
    refine T_iload_n (pc := 108) 2 dX12_worthOf_108 rfl rfl ?_
    refine T_imul (pc := 109) dX12_worthOf_109 ?_
    refine T_iload_n (pc := 110) 3 dX12_worthOf_110 rfl rfl ?_
    refine T_iadd (pc := 111) dX12_worthOf_111 ?_
    refine T_iload (pc := 112) 4 dX12_worthOf_112 rfl ?_
    refine T_iadd (pc := 114) dX12_worthOf_114 ?_
    refine T_iconst (pc := 115) (v := 1) dX12_worthOf_115 (by decide) ?_
    refine T_isub (pc := 116) dX12_worthOf_116 ?_
    refine T_bald (pc := 117) rfl dX12_worthOf_117 (fun x10 => ?_)
    refine T_bipush (pc := 118) (v := 97) dX12_worthOf_118 (by decide) ?_
    refine T_isub (pc := 120) dX12_worthOf_120 ?_
    refine T_iconst (pc := 121) (v := 1) dX12_worthOf_121 (by decide) ?_
    refine T_iadd (pc := 122) dX12_worthOf_122 ?_
    refine T_iast (pc := 123) rfl dX12_worthOf_123 ?_
    refine T_letS (fun s11 => ?_)
    refine T_aload_n (pc := 124) 0 dX12_worthOf_124 rfl rfl ?_
    refine T_getA (pc := 125) fd_10_5 hw1508 dX12_worthOf_125 ?_
    refine T_bipush (pc := 128) (v := 119) dX12_worthOf_128 (by decide) ?_
    refine T_iload (pc := 130) 5 dX12_worthOf_130 rfl ?_
    refine T_iast (pc := 132) rfl dX12_worthOf_132 ?_
    refine T_letS (fun s12 => ?_)
    refine T_aload_n (pc := 133) 0 dX12_worthOf_133 rfl rfl ?_
    refine T_aload_n (pc := 134) 0 dX12_worthOf_134 rfl rfl ?_
    refine T_getA (pc := 135) fd_10_3 hw1506 dX12_worthOf_135 ?_
    refine T_sipush (pc := 138) (v := 200) dX12_worthOf_138 (by decide) ?_
    refine T_iload_n (pc := 141) 1 dX12_worthOf_141 rfl rfl ?_
    refine T_imul (pc := 142) dX12_worthOf_142 ?_
    refine T_aload_n (pc := 143) 0 dX12_worthOf_143 rfl rfl ?_
    refine T_getA (pc := 144) fd_10_4 hw1507 dX12_worthOf_144 ?_
    refine T_iload_n (pc := 147) 1 dX12_worthOf_147 rfl rfl ?_
    refine T_iald (pc := 148) rfl dX12_worthOf_148 (fun x13 => ?_)
    refine T_callSv (pc := 149) (rest := []) (Rn_V (pc := 149) (as := [.ref 57, .int ((200 : Int32) * p0), .int x13]) (rest := []) (ctX12_goThrough_57 s12 ((200 : Int32) * p0) x13) rfl rfl mv_X12_goThrough hw1735 rfl ⟨Nat.le_of_ble_eq_true rfl, Nat.le_of_ble_eq_true rfl⟩ (Nat.le_of_ble_eq_true rfl) dX12_worthOf_149 rfl) rfl (fun s14 => ?_)
    refine T_iconst (pc := 152) (v := 0) dX12_worthOf_152 (by decide) ?_
    refine T_bipush (pc := 153) (v := 100) dX12_worthOf_153 (by decide) ?_
    refine T_aload_n (pc := 155) 0 dX12_worthOf_155 rfl rfl ?_
    refine T_getI (pc := 156) fd_10_17 hw1520 dX12_worthOf_156 ?_
    refine T_callPi (pc := 159) (rest := [.int (0 : Int32)]) (Rn_S (pc := 159) (as := [.int (100 : Int32), .int (zI s14 41)]) (rest := [.int (0 : Int32)]) (ctJ9_min_7cf53 s14 (100 : Int32) (zI s14 41)) ms_J9_min_7cf53 hw1898 rfl ⟨Nat.le_of_ble_eq_true rfl, Nat.le_of_ble_eq_true rfl⟩ (Nat.le_of_ble_eq_true rfl) dX12_worthOf_159 rfl) rfl (fun x15 => ?_)
    refine T_callPi (pc := 162) (rest := []) (Rn_S (pc := 162) (as := [.int (0 : Int32), .int x15]) (rest := []) (ctJ9_max_7cf53 s14 (0 : Int32) x15) ms_J9_max_7cf53 hw1893 rfl ⟨Nat.le_of_ble_eq_true rfl, Nat.le_of_ble_eq_true rfl⟩ (Nat.le_of_ble_eq_true rfl) dX12_worthOf_162 rfl) rfl (fun x16 => ?_)
    exact T_ireturn (pc := 165) rfl dX12_worthOf_165 rfl
def kX12_likely : Ks := (cX12_likely, RX12, some .int, 444, 10244, 4)
def fX12_likely (σ : St) (p0 : Int32) (p1 : Int32) : Option (Int32 × St) :=
  (some (uI σ 30 (0 : Int32))).bind fun s1 => (fX12_isSpeech s1 p0).bind fun x2 => if (bi x2) = 0 then (some ((-1 : Int32), s1))
  else ((fX12_isRoll s1 p1).bind fun x3 => if (bi x3) = 0 then (some ((-1 : Int32), s1))
  else ((rd (zA s1 61) 144 p0).bind fun x4 => if x4 = 0 then (some ((-1 : Int32), s1))
  else (nz (16 : Int32) (if (p0 / (16 : Int32)) = p1 then (some ((-1 : Int32), s1))
  else ((rd (zA s1 69) 8 p1).bind fun x5 => if x5 = (-1 : Int32) then (some ((-1 : Int32), s1))
  else ((rd (zA s1 61) 144 p0).bind fun x6 => (some (((((2 : Int32) * p0) + x6) - (1 : Int32)))).bind fun x7 => (rd (zA s1 69) 8 p1).bind fun x8 => nz (16 : Int32) ((rd (zA s1 63) 288 x7).bind fun x9 => (rd (zA s1 64) 288 x7).bind fun x10 => (rd (zA s1 61) 144 p0).bind fun x11 => if x11 ≤ (1 : Int32) then ((fX12_worthOf s1 x8 (p0 / (16 : Int32)) x9 x10 (0 : Int32)).bind fun r12 => some (r12.1, r12.2))
  else ((rd (zA s1 64) 288 (x7 - (1 : Int32))).bind fun x13 => (fX12_worthOf s1 x8 (p0 / (16 : Int32)) x9 x10 x13).bind fun r14 => some (r14.1, r14.2)))))))))
set_option maxRecDepth 100000 in
set_option maxHeartbeats 4000000 in
theorem ctX12_likely (σ : St) (p0 : Int32) (p1 : Int32) : Ct yX12_likely kX12_likely [.ref 10, .int p0, .int p1] σ cSi (fX12_likely σ p0 p1) := by
  refine Ct.of (by decide +kernel) rfl (Nat.le_of_ble_eq_true rfl) ?_
  unfold fX12_likely
  show T _ _ _ 0 [(0, .ref 10), (1, .int p0), (2, .int p1)] [] _
  refine T_aload_n (pc := 0) 0 dX12_likely_0 rfl rfl ?_
  refine T_iconst (pc := 1) (v := 0) dX12_likely_1 (by decide) ?_
  refine T_putI (pc := 2) fd_10_0 hw1503 dX12_likely_2 ?_
  refine T_letS (fun s1 => ?_)
  refine T_aload_n (pc := 5) 0 dX12_likely_5 rfl rfl ?_
  refine T_iload_n (pc := 6) 1 dX12_likely_6 rfl rfl ?_
  refine T_callPz (pc := 7) (rest := []) (Rn_V (pc := 7) (as := [.int p0]) (rest := []) (ctX12_isSpeech s1 p0) rfl rfl mv_X12_isSpeech hw1849 rfl ⟨Nat.le_of_ble_eq_true rfl, Nat.le_of_ble_eq_true rfl⟩ (Nat.le_of_ble_eq_true rfl) dX12_likely_7 rfl) rfl (fun x2 => ?_)
  refine T_if_eq (pc := 10) 48 dX12_likely_10 (by decide) (fun _ => ?_) (fun _ => ?_)
  · refine T_iconst (pc := 48) (v := -1) dX12_likely_48 (by decide) ?_
    exact T_ireturn (pc := 49) rfl dX12_likely_49 rfl
  · refine T_aload_n (pc := 13) 0 dX12_likely_13 rfl rfl ?_
    refine T_iload_n (pc := 14) 2 dX12_likely_14 rfl rfl ?_
    refine T_callPz (pc := 15) (rest := []) (Rn_V (pc := 15) (as := [.int p1]) (rest := []) (ctX12_isRoll s1 p1) rfl rfl mv_X12_isRoll hw1853 rfl ⟨Nat.le_of_ble_eq_true rfl, Nat.le_of_ble_eq_true rfl⟩ (Nat.le_of_ble_eq_true rfl) dX12_likely_15 rfl) rfl (fun x3 => ?_)
    refine T_if_eq (pc := 18) 48 dX12_likely_18 (by decide) (fun _ => ?_) (fun _ => ?_)
    · refine T_iconst (pc := 48) (v := -1) dX12_likely_48 (by decide) ?_
      exact T_ireturn (pc := 49) rfl dX12_likely_49 rfl
    · refine T_aload_n (pc := 21) 0 dX12_likely_21 rfl rfl ?_
      refine T_getA (pc := 22) fd_10_22 hw1525 dX12_likely_22 ?_
      refine T_iload_n (pc := 25) 1 dX12_likely_25 rfl rfl ?_
      refine T_iald (pc := 26) rfl dX12_likely_26 (fun x4 => ?_)
      refine T_if_eq (pc := 27) 48 dX12_likely_27 (by decide) (fun _ => ?_) (fun _ => ?_)
      · refine T_iconst (pc := 48) (v := -1) dX12_likely_48 (by decide) ?_
        exact T_ireturn (pc := 49) rfl dX12_likely_49 rfl
      · refine T_iload_n (pc := 30) 1 dX12_likely_30 rfl rfl ?_
        refine T_bipush (pc := 31) (v := 16) dX12_likely_31 (by decide) ?_
        refine T_idiv (pc := 33) dX12_likely_33 ?_
        refine T_iload_n (pc := 34) 2 dX12_likely_34 rfl rfl ?_
        refine T_icmp_eq (pc := 35) 48 dX12_likely_35 (by decide) (fun _ => ?_) (fun _ => ?_)
        · refine T_iconst (pc := 48) (v := -1) dX12_likely_48 (by decide) ?_
          exact T_ireturn (pc := 49) rfl dX12_likely_49 rfl
        · refine T_aload_n (pc := 38) 0 dX12_likely_38 rfl rfl ?_
          refine T_getA (pc := 39) fd_10_30 hw1533 dX12_likely_39 ?_
          refine T_iload_n (pc := 42) 2 dX12_likely_42 rfl rfl ?_
          refine T_iald (pc := 43) rfl dX12_likely_43 (fun x5 => ?_)
          refine T_iconst (pc := 44) (v := -1) dX12_likely_44 (by decide) ?_
          refine T_icmp_ne (pc := 45) 50 dX12_likely_45 (by decide) (fun _ => ?_) (fun _ => ?_)
          · refine T_iconst (pc := 50) (v := 2) dX12_likely_50 (by decide) ?_
            refine T_iload_n (pc := 51) 1 dX12_likely_51 rfl rfl ?_
            refine T_imul (pc := 52) dX12_likely_52 ?_
            refine T_aload_n (pc := 53) 0 dX12_likely_53 rfl rfl ?_
            refine T_getA (pc := 54) fd_10_22 hw1525 dX12_likely_54 ?_
            refine T_iload_n (pc := 57) 1 dX12_likely_57 rfl rfl ?_
            refine T_iald (pc := 58) rfl dX12_likely_58 (fun x6 => ?_)
            refine T_iadd (pc := 59) dX12_likely_59 ?_
            refine T_iconst (pc := 60) (v := 1) dX12_likely_60 (by decide) ?_
            refine T_isub (pc := 61) dX12_likely_61 ?_
            refine T_letI (fun x7 => ?_)
            refine T_istore_n (pc := 62) (lv' := [(0, .ref 10), (1, .int p0), (2, .int p1), (3, .int x7)]) dX12_likely_62 rfl (by decide) rfl ?_
            refine T_aload_n (pc := 63) 0 dX12_likely_63 rfl rfl ?_
            refine T_aload_n (pc := 64) 0 dX12_likely_64 rfl rfl ?_
            refine T_getA (pc := 65) fd_10_30 hw1533 dX12_likely_65 ?_
            refine T_iload_n (pc := 68) 2 dX12_likely_68 rfl rfl ?_
            refine T_iald (pc := 69) rfl dX12_likely_69 (fun x8 => ?_)
            refine T_iload_n (pc := 70) 1 dX12_likely_70 rfl rfl ?_
            refine T_bipush (pc := 71) (v := 16) dX12_likely_71 (by decide) ?_
            refine T_idiv (pc := 73) dX12_likely_73 ?_
            refine T_aload_n (pc := 74) 0 dX12_likely_74 rfl rfl ?_
            refine T_getA (pc := 75) fd_10_24 hw1527 dX12_likely_75 ?_
            refine T_iload_n (pc := 78) 3 dX12_likely_78 rfl rfl ?_
            refine T_iald (pc := 79) rfl dX12_likely_79 (fun x9 => ?_)
            refine T_aload_n (pc := 80) 0 dX12_likely_80 rfl rfl ?_
            refine T_getA (pc := 81) fd_10_25 hw1528 dX12_likely_81 ?_
            refine T_iload_n (pc := 84) 3 dX12_likely_84 rfl rfl ?_
            refine T_iald (pc := 85) rfl dX12_likely_85 (fun x10 => ?_)
            refine T_aload_n (pc := 86) 0 dX12_likely_86 rfl rfl ?_
            refine T_getA (pc := 87) fd_10_22 hw1525 dX12_likely_87 ?_
            refine T_iload_n (pc := 90) 1 dX12_likely_90 rfl rfl ?_
            refine T_iald (pc := 91) rfl dX12_likely_91 (fun x11 => ?_)
            refine T_iconst (pc := 92) (v := 1) dX12_likely_92 (by decide) ?_
            refine T_icmp_le (pc := 93) 107 dX12_likely_93 (by decide) (fun _ => ?_) (fun _ => ?_)
            · refine T_iconst (pc := 107) (v := 0) dX12_likely_107 (by decide) ?_
              refine T_callSi (pc := 108) (rest := []) (Rn_V (pc := 108) (as := [.int x8, .int (p0 / (16 : Int32)), .int x9, .int x10, .int (0 : Int32)]) (rest := []) (ctX12_worthOf s1 x8 (p0 / (16 : Int32)) x9 x10 (0 : Int32)) rfl rfl mv_X12_worthOf hw2112 rfl ⟨Nat.le_of_ble_eq_true rfl, Nat.le_of_ble_eq_true rfl⟩ (Nat.le_of_ble_eq_true rfl) dX12_likely_108 rfl) rfl (fun r12 => ?_)
              exact T_ireturn (pc := 111) rfl dX12_likely_111 rfl
            · refine T_aload_n (pc := 96) 0 dX12_likely_96 rfl rfl ?_
              refine T_getA (pc := 97) fd_10_25 hw1528 dX12_likely_97 ?_
              refine T_iload_n (pc := 100) 3 dX12_likely_100 rfl rfl ?_
              refine T_iconst (pc := 101) (v := 1) dX12_likely_101 (by decide) ?_
              refine T_isub (pc := 102) dX12_likely_102 ?_
              refine T_iald (pc := 103) rfl dX12_likely_103 (fun x13 => ?_)
              refine T_goto (pc := 104) 108 dX12_likely_104 (by decide) ?_
              refine T_callSi (pc := 108) (rest := []) (Rn_V (pc := 108) (as := [.int x8, .int (p0 / (16 : Int32)), .int x9, .int x10, .int x13]) (rest := []) (ctX12_worthOf s1 x8 (p0 / (16 : Int32)) x9 x10 x13) rfl rfl mv_X12_worthOf hw2112 rfl ⟨Nat.le_of_ble_eq_true rfl, Nat.le_of_ble_eq_true rfl⟩ (Nat.le_of_ble_eq_true rfl) dX12_likely_108 rfl) rfl (fun r14 => ?_)
              exact T_ireturn (pc := 111) rfl dX12_likely_111 rfl
          · refine T_iconst (pc := 48) (v := -1) dX12_likely_48 (by decide) ?_
            exact T_ireturn (pc := 49) rfl dX12_likely_49 rfl
def kX12_limit : Ks := (cX12_limit, RX12, some .boolean, 1, 22, 2)
def fX12_limit (σ : St) (p0 : Int32) : Option (Bool × St) :=
  (some (uI σ 30 (0 : Int32))).bind fun s1 => (fX12_isIn p0 (0 : Int32) (8 : Int32)).bind fun x2 => if (bi x2) = 0 then (some (false, s1))
  else ((some (uI s1 45 p0)).bind fun s3 => some (true, s3))
set_option maxRecDepth 100000 in
set_option maxHeartbeats 4000000 in
theorem ctX12_limit (σ : St) (p0 : Int32) : Ct yX12_limit kX12_limit [.ref 10, .int p0] σ cSz (fX12_limit σ p0) := by
  refine Ct.of (by decide +kernel) rfl (Nat.le_of_ble_eq_true rfl) ?_
  unfold fX12_limit
  show T _ _ _ 0 [(0, .ref 10), (1, .int p0)] [] _
  refine T_aload_n (pc := 0) 0 dX12_limit_0 rfl rfl ?_
  refine T_iconst (pc := 1) (v := 0) dX12_limit_1 (by decide) ?_
  refine T_putI (pc := 2) fd_10_0 hw1503 dX12_limit_2 ?_
  refine T_letS (fun s1 => ?_)
  refine T_iload_n (pc := 5) 1 dX12_limit_5 rfl rfl ?_
  refine T_iconst (pc := 6) (v := 0) dX12_limit_6 (by decide) ?_
  refine T_bipush (pc := 7) (v := 8) dX12_limit_7 (by decide) ?_
  refine T_callPz (pc := 9) (rest := []) (Rn_S (pc := 9) (as := [.int p0, .int (0 : Int32), .int (8 : Int32)]) (rest := []) (ctX12_isIn s1 p0 (0 : Int32) (8 : Int32)) ms_X12_isIn hw1689 rfl ⟨Nat.le_of_ble_eq_true rfl, Nat.le_of_ble_eq_true rfl⟩ (Nat.le_of_ble_eq_true rfl) dX12_limit_9 rfl) rfl (fun x2 => ?_)
  refine T_if_ne (pc := 12) 17 dX12_limit_12 (by decide) (fun _ => ?_) (fun _ => ?_)
  · refine T_aload_n (pc := 17) 0 dX12_limit_17 rfl rfl ?_
    refine T_iload_n (pc := 18) 1 dX12_limit_18 rfl rfl ?_
    refine T_putI (pc := 19) fd_10_36 hw1539 dX12_limit_19 ?_
    refine T_letS (fun s3 => ?_)
    refine T_iconst (pc := 22) (v := 1) dX12_limit_22 (by decide) ?_
    exact T_zreturn (pc := 23) true rfl dX12_limit_23 rfl rfl
  · refine T_iconst (pc := 15) (v := 0) dX12_limit_15 (by decide) ?_
    exact T_zreturn (pc := 16) false rfl dX12_limit_16 rfl rfl
def kX12_many : Ks := (cX12_many, RX12, some .int, 1, 21, 2)
def fX12_many (σ : St) (p0 : Int32) : Option (Int32 × St) :=
  (some (uI σ 30 (0 : Int32))).bind fun s1 => (fX12_isRoll s1 p0).bind fun x2 => if (bi x2) = 0 then (some ((-1 : Int32), s1))
  else ((rd (zA s1 60) 9 p0).bind fun x3 => some (x3, s1))
set_option maxRecDepth 100000 in
set_option maxHeartbeats 4000000 in
theorem ctX12_many (σ : St) (p0 : Int32) : Ct yX12_many kX12_many [.ref 10, .int p0] σ cSi (fX12_many σ p0) := by
  refine Ct.of (by decide +kernel) rfl (Nat.le_of_ble_eq_true rfl) ?_
  unfold fX12_many
  show T _ _ _ 0 [(0, .ref 10), (1, .int p0)] [] _
  refine T_aload_n (pc := 0) 0 dX12_many_0 rfl rfl ?_
  refine T_iconst (pc := 1) (v := 0) dX12_many_1 (by decide) ?_
  refine T_putI (pc := 2) fd_10_0 hw1503 dX12_many_2 ?_
  refine T_letS (fun s1 => ?_)
  refine T_aload_n (pc := 5) 0 dX12_many_5 rfl rfl ?_
  refine T_iload_n (pc := 6) 1 dX12_many_6 rfl rfl ?_
  refine T_callPz (pc := 7) (rest := []) (Rn_V (pc := 7) (as := [.int p0]) (rest := []) (ctX12_isRoll s1 p0) rfl rfl mv_X12_isRoll hw1853 rfl ⟨Nat.le_of_ble_eq_true rfl, Nat.le_of_ble_eq_true rfl⟩ (Nat.le_of_ble_eq_true rfl) dX12_many_7 rfl) rfl (fun x2 => ?_)
  refine T_if_eq (pc := 10) 22 dX12_many_10 (by decide) (fun _ => ?_) (fun _ => ?_)
  · refine T_iconst (pc := 22) (v := -1) dX12_many_22 (by decide) ?_
    exact T_ireturn (pc := 23) rfl dX12_many_23 rfl
  · refine T_aload_n (pc := 13) 0 dX12_many_13 rfl rfl ?_
    refine T_getA (pc := 14) fd_10_21 hw1524 dX12_many_14 ?_
    refine T_iload_n (pc := 17) 1 dX12_many_17 rfl rfl ?_
    refine T_iald (pc := 18) rfl dX12_many_18 (fun x3 => ?_)
    refine T_goto (pc := 19) 23 dX12_many_19 (by decide) ?_
    exact T_ireturn (pc := 23) rfl dX12_many_23 rfl
def kX12_nearest : Ks := (cX12_nearest, RX12, some .int, 4, 98, 3)
def fX12_nearest (σ : St) (p0 : Int32) (p1 : Int32) : Option (Int32 × St) :=
  (some (uI σ 30 (0 : Int32))).bind fun s1 => (fX12_isOf s1 p0 p1).bind fun x2 => if (bi x2) = 0 then (some ((-1 : Int32), s1))
  else ((rd (zA s1 61) 144 p0).bind fun x3 => if x3 ≤ 0 then (some ((-1 : Int32), s1))
  else ((fX12_nearestOf s1 p0 p1).bind fun r4 => some (r4.1, r4.2)))
set_option maxRecDepth 100000 in
set_option maxHeartbeats 4000000 in
theorem ctX12_nearest (σ : St) (p0 : Int32) (p1 : Int32) : Ct yX12_nearest kX12_nearest [.ref 10, .int p0, .int p1] σ cSi (fX12_nearest σ p0 p1) := by
  refine Ct.of (by decide +kernel) rfl (Nat.le_of_ble_eq_true rfl) ?_
  unfold fX12_nearest
  show T _ _ _ 0 [(0, .ref 10), (1, .int p0), (2, .int p1)] [] _
  refine T_aload_n (pc := 0) 0 dX12_nearest_0 rfl rfl ?_
  refine T_iconst (pc := 1) (v := 0) dX12_nearest_1 (by decide) ?_
  refine T_putI (pc := 2) fd_10_0 hw1503 dX12_nearest_2 ?_
  refine T_letS (fun s1 => ?_)
  refine T_aload_n (pc := 5) 0 dX12_nearest_5 rfl rfl ?_
  refine T_iload_n (pc := 6) 1 dX12_nearest_6 rfl rfl ?_
  refine T_iload_n (pc := 7) 2 dX12_nearest_7 rfl rfl ?_
  refine T_callPz (pc := 8) (rest := []) (Rn_V (pc := 8) (as := [.int p0, .int p1]) (rest := []) (ctX12_isOf s1 p0 p1) rfl rfl mv_X12_isOf hw1907 rfl ⟨Nat.le_of_ble_eq_true rfl, Nat.le_of_ble_eq_true rfl⟩ (Nat.le_of_ble_eq_true rfl) dX12_nearest_8 rfl) rfl (fun x2 => ?_)
  refine T_if_eq (pc := 11) 32 dX12_nearest_11 (by decide) (fun _ => ?_) (fun _ => ?_)
  · refine T_iconst (pc := 32) (v := -1) dX12_nearest_32 (by decide) ?_
    exact T_ireturn (pc := 33) rfl dX12_nearest_33 rfl
  · refine T_aload_n (pc := 14) 0 dX12_nearest_14 rfl rfl ?_
    refine T_getA (pc := 15) fd_10_22 hw1525 dX12_nearest_15 ?_
    refine T_iload_n (pc := 18) 1 dX12_nearest_18 rfl rfl ?_
    refine T_iald (pc := 19) rfl dX12_nearest_19 (fun x3 => ?_)
    refine T_if_le (pc := 20) 32 dX12_nearest_20 (by decide) (fun _ => ?_) (fun _ => ?_)
    · refine T_iconst (pc := 32) (v := -1) dX12_nearest_32 (by decide) ?_
      exact T_ireturn (pc := 33) rfl dX12_nearest_33 rfl
    · refine T_aload_n (pc := 23) 0 dX12_nearest_23 rfl rfl ?_
      refine T_iload_n (pc := 24) 1 dX12_nearest_24 rfl rfl ?_
      refine T_iload_n (pc := 25) 2 dX12_nearest_25 rfl rfl ?_
      refine T_callSi (pc := 26) (rest := []) (Rn_V (pc := 26) (as := [.int p0, .int p1]) (rest := []) (ctX12_nearestOf s1 p0 p1) rfl rfl mv_X12_nearestOf hw1923 rfl ⟨Nat.le_of_ble_eq_true rfl, Nat.le_of_ble_eq_true rfl⟩ (Nat.le_of_ble_eq_true rfl) dX12_nearest_26 rfl) rfl (fun r4 => ?_)
      refine T_goto (pc := 29) 33 dX12_nearest_29 (by decide) ?_
      exact T_ireturn (pc := 33) rfl dX12_nearest_33 rfl
def kX12_settlesOf : Ks := (cX12_settlesOf, RX12, some .int, 5, 122, 6)
def fX12_settlesOf_L5 (v1 : Int32) (v2 : Int32) (kb : St → Int32 → Int32 → Option (Int32 × St)) (σ : St) (v3 : Int32) (v4 : Int32) : Option (Int32 × St) :=
  if (128 : Int32) ≤ v4 then (some (v3, σ))
  else ((fX12_isOf σ v4 v2).bind fun x1 => if (bi x1) = 0 then (kb σ v3 (v4 + (1 : Int32)))
  else ((fX12_kindOf σ v4 v2).bind fun r2 => if (4 : Int32) ≤ r2.1 then ((fX12_kindOf r2.2 v4 (v2 ||| ((1 : Int32) <<< (v1 &&& 31)))).bind fun r3 => if r3.1 = (1 : Int32) then ((some ((v3 + (1 : Int32)))).bind fun x4 => kb r3.2 x4 (v4 + (1 : Int32)))
  else (if r3.1 = (2 : Int32) then ((some ((v3 + (1 : Int32)))).bind fun x6 => kb r3.2 x6 (v4 + (1 : Int32)))
  else ((some ((v3 + (0 : Int32)))).bind fun x5 => kb r3.2 x5 (v4 + (1 : Int32)))))
  else (kb r2.2 v3 (v4 + (1 : Int32)))))
set_option maxRecDepth 100000 in
set_option maxHeartbeats 4000000 in
theorem fX12_settlesOf_L5_T (v1 : Int32) (v2 : Int32) (σ : St) {kb : St → Int32 → Int32 → Option (Int32 × St)} (hkb : ∀ (σ' : St) (w3 : Int32) (w4 : Int32), T kX12_settlesOf cSi σ' 5 [(0, .ref 10), (1, .int v1), (2, .int v2), (3, .int w3), (4, .int w4)] [] (kb σ' w3 w4)) (v3 : Int32) (v4 : Int32) : T kX12_settlesOf cSi σ 5 [(0, .ref 10), (1, .int v1), (2, .int v2), (3, .int v3), (4, .int v4)] [] (fX12_settlesOf_L5 v1 v2 kb σ v3 v4) := by
  unfold fX12_settlesOf_L5
  refine T_iload (pc := 5) 4 dX12_settlesOf_5 rfl ?_
  refine T_sipush (pc := 7) (v := 128) dX12_settlesOf_7 (by decide) ?_
  refine T_icmp_ge (pc := 10) 76 dX12_settlesOf_10 (by decide) (fun _ => ?_) (fun _ => ?_)
  · refine T_iload_n (pc := 76) 3 dX12_settlesOf_76 rfl rfl ?_
    exact T_ireturn (pc := 77) rfl dX12_settlesOf_77 rfl
  · refine T_aload_n (pc := 13) 0 dX12_settlesOf_13 rfl rfl ?_
    refine T_iload (pc := 14) 4 dX12_settlesOf_14 rfl ?_
    refine T_iload_n (pc := 16) 2 dX12_settlesOf_16 rfl rfl ?_
    refine T_callPz (pc := 17) (rest := []) (Rn_V (pc := 17) (as := [.int v4, .int v2]) (rest := []) (ctX12_isOf σ v4 v2) rfl rfl mv_X12_isOf hw1907 rfl ⟨Nat.le_of_ble_eq_true rfl, Nat.le_of_ble_eq_true rfl⟩ (Nat.le_of_ble_eq_true rfl) dX12_settlesOf_17 rfl) rfl (fun x1 => ?_)
    refine T_if_eq (pc := 20) 70 dX12_settlesOf_20 (by decide) (fun _ => ?_) (fun _ => ?_)
    · refine T_iinc (pc := 70) (y := 1) (lv' := [(0, .ref 10), (1, .int v1), (2, .int v2), (3, .int v3), (4, .int (v4 + (1 : Int32)))]) 4 dX12_settlesOf_70 (by decide) rfl (by decide) rfl ?_
      refine T_goto (pc := 73) 5 dX12_settlesOf_73 (by decide) ?_
      exact hkb σ v3 (v4 + (1 : Int32))
    · refine T_aload_n (pc := 23) 0 dX12_settlesOf_23 rfl rfl ?_
      refine T_iload (pc := 24) 4 dX12_settlesOf_24 rfl ?_
      refine T_iload_n (pc := 26) 2 dX12_settlesOf_26 rfl rfl ?_
      refine T_callSi (pc := 27) (rest := []) (Rn_V (pc := 27) (as := [.int v4, .int v2]) (rest := []) (ctX12_kindOf σ v4 v2) rfl rfl mv_X12_kindOf hw1915 rfl ⟨Nat.le_of_ble_eq_true rfl, Nat.le_of_ble_eq_true rfl⟩ (Nat.le_of_ble_eq_true rfl) dX12_settlesOf_27 rfl) rfl (fun r2 => ?_)
      refine T_iconst (pc := 30) (v := 4) dX12_settlesOf_30 (by decide) ?_
      refine T_icmp_ge (pc := 31) 37 dX12_settlesOf_31 (by decide) (fun _ => ?_) (fun _ => ?_)
      · refine T_aload_n (pc := 37) 0 dX12_settlesOf_37 rfl rfl ?_
        refine T_iload (pc := 38) 4 dX12_settlesOf_38 rfl ?_
        refine T_iload_n (pc := 40) 2 dX12_settlesOf_40 rfl rfl ?_
        refine T_iconst (pc := 41) (v := 1) dX12_settlesOf_41 (by decide) ?_
        refine T_iload_n (pc := 42) 1 dX12_settlesOf_42 rfl rfl ?_
        refine T_ishl (pc := 43) dX12_settlesOf_43 ?_
        refine T_ior (pc := 44) dX12_settlesOf_44 ?_
        refine T_callSi (pc := 45) (rest := []) (Rn_V (pc := 45) (as := [.int v4, .int (v2 ||| ((1 : Int32) <<< (v1 &&& 31)))]) (rest := []) (ctX12_kindOf r2.2 v4 (v2 ||| ((1 : Int32) <<< (v1 &&& 31)))) rfl rfl mv_X12_kindOf hw1915 rfl ⟨Nat.le_of_ble_eq_true rfl, Nat.le_of_ble_eq_true rfl⟩ (Nat.le_of_ble_eq_true rfl) dX12_settlesOf_45 rfl) rfl (fun r3 => ?_)
        refine T_istore (pc := 48) (lv' := [(0, .ref 10), (1, .int v1), (2, .int v2), (3, .int v3), (4, .int v4), (5, .int r3.1)]) dX12_settlesOf_48 (by decide) rfl ?_
        refine T_iload_n (pc := 50) 3 dX12_settlesOf_50 rfl rfl ?_
        refine T_iload (pc := 51) 5 dX12_settlesOf_51 rfl ?_
        refine T_iconst (pc := 53) (v := 1) dX12_settlesOf_53 (by decide) ?_
        refine T_icmp_eq (pc := 54) 63 dX12_settlesOf_54 (by decide) (fun _ => ?_) (fun _ => ?_)
        · refine T_iconst (pc := 63) (v := 1) dX12_settlesOf_63 (by decide) ?_
          refine T_goto (pc := 64) 68 dX12_settlesOf_64 (by decide) ?_
          refine T_iadd (pc := 68) dX12_settlesOf_68 ?_
          refine T_letI (fun x4 => ?_)
          refine T_istore_n (pc := 69) (lv' := [(0, .ref 10), (1, .int v1), (2, .int v2), (3, .int x4), (4, .int v4), (5, .int r3.1)]) dX12_settlesOf_69 rfl (by decide) rfl ?_
          refine T_iinc (pc := 70) (y := 1) (lv' := [(0, .ref 10), (1, .int v1), (2, .int v2), (3, .int x4), (4, .int (v4 + (1 : Int32))), (5, .int r3.1)]) 4 dX12_settlesOf_70 (by decide) rfl (by decide) rfl ?_
          refine T_goto (pc := 73) 5 dX12_settlesOf_73 (by decide) ?_
          refine T_pick (lv' := [(0, .ref 10), (1, .int v1), (2, .int v2), (3, .int x4), (4, .int (v4 + (1 : Int32)))]) [0, 1, 2, 3, 4] rfl ?_
          exact hkb r3.2 x4 (v4 + (1 : Int32))
        · refine T_iload (pc := 57) 5 dX12_settlesOf_57 rfl ?_
          refine T_iconst (pc := 59) (v := 2) dX12_settlesOf_59 (by decide) ?_
          refine T_icmp_ne (pc := 60) 67 dX12_settlesOf_60 (by decide) (fun _ => ?_) (fun _ => ?_)
          · refine T_iconst (pc := 67) (v := 0) dX12_settlesOf_67 (by decide) ?_
            refine T_iadd (pc := 68) dX12_settlesOf_68 ?_
            refine T_letI (fun x5 => ?_)
            refine T_istore_n (pc := 69) (lv' := [(0, .ref 10), (1, .int v1), (2, .int v2), (3, .int x5), (4, .int v4), (5, .int r3.1)]) dX12_settlesOf_69 rfl (by decide) rfl ?_
            refine T_iinc (pc := 70) (y := 1) (lv' := [(0, .ref 10), (1, .int v1), (2, .int v2), (3, .int x5), (4, .int (v4 + (1 : Int32))), (5, .int r3.1)]) 4 dX12_settlesOf_70 (by decide) rfl (by decide) rfl ?_
            refine T_goto (pc := 73) 5 dX12_settlesOf_73 (by decide) ?_
            refine T_pick (lv' := [(0, .ref 10), (1, .int v1), (2, .int v2), (3, .int x5), (4, .int (v4 + (1 : Int32)))]) [0, 1, 2, 3, 4] rfl ?_
            exact hkb r3.2 x5 (v4 + (1 : Int32))
          · refine T_iconst (pc := 63) (v := 1) dX12_settlesOf_63 (by decide) ?_
            refine T_goto (pc := 64) 68 dX12_settlesOf_64 (by decide) ?_
            refine T_iadd (pc := 68) dX12_settlesOf_68 ?_
            refine T_letI (fun x6 => ?_)
            refine T_istore_n (pc := 69) (lv' := [(0, .ref 10), (1, .int v1), (2, .int v2), (3, .int x6), (4, .int v4), (5, .int r3.1)]) dX12_settlesOf_69 rfl (by decide) rfl ?_
            refine T_iinc (pc := 70) (y := 1) (lv' := [(0, .ref 10), (1, .int v1), (2, .int v2), (3, .int x6), (4, .int (v4 + (1 : Int32))), (5, .int r3.1)]) 4 dX12_settlesOf_70 (by decide) rfl (by decide) rfl ?_
            refine T_goto (pc := 73) 5 dX12_settlesOf_73 (by decide) ?_
            refine T_pick (lv' := [(0, .ref 10), (1, .int v1), (2, .int v2), (3, .int x6), (4, .int (v4 + (1 : Int32)))]) [0, 1, 2, 3, 4] rfl ?_
            exact hkb r3.2 x6 (v4 + (1 : Int32))
      · refine T_goto (pc := 34) 70 dX12_settlesOf_34 (by decide) ?_
        refine T_iinc (pc := 70) (y := 1) (lv' := [(0, .ref 10), (1, .int v1), (2, .int v2), (3, .int v3), (4, .int (v4 + (1 : Int32)))]) 4 dX12_settlesOf_70 (by decide) rfl (by decide) rfl ?_
        refine T_goto (pc := 73) 5 dX12_settlesOf_73 (by decide) ?_
        exact hkb r2.2 v3 (v4 + (1 : Int32))
def fX12_settlesOf_P5 (v1 : Int32) (v2 : Int32) (σ : St) (v3 : Int32) (v4 : Int32) : Option (Int32 × St) := it (fun (kb : (St × Int32 × Int32) → Option (Int32 × St)) (t : St × Int32 × Int32) => fX12_settlesOf_L5 v1 v2 (fun σ v3 v4 => kb (σ, v3, v4)) t.1 t.2.1 t.2.2) FU (σ, v3, v4)
set_option maxRecDepth 100000 in
set_option maxHeartbeats 4000000 in
theorem fX12_settlesOf_P5_T (v1 : Int32) (v2 : Int32) (σ : St) (v3 : Int32) (v4 : Int32) : T kX12_settlesOf cSi σ 5 [(0, .ref 10), (1, .int v1), (2, .int v2), (3, .int v3), (4, .int v4)] [] (fX12_settlesOf_P5 v1 v2 σ v3 v4) :=
  it_T (S := (fun t : St × Int32 × Int32 => t.1)) (lv := fun t : St × Int32 × Int32 => [(0, .ref 10), (1, .int v1), (2, .int v2), (3, .int t.2.1), (4, .int t.2.2)]) (st := fun _ => []) (fun kb hkb t => fX12_settlesOf_L5_T v1 v2 (hkb := fun σ v3 v4 => hkb (σ, v3, v4)) t.1 t.2.1 t.2.2) FU (σ, v3, v4)
def fX12_settlesOf (σ : St) (p0 : Int32) (p1 : Int32) : Option (Int32 × St) :=
  fX12_settlesOf_P5 p0 p1 σ (0 : Int32) (0 : Int32)
set_option maxRecDepth 100000 in
set_option maxHeartbeats 4000000 in
theorem ctX12_settlesOf (σ : St) (p0 : Int32) (p1 : Int32) : Ct yX12_settlesOf kX12_settlesOf [.ref 10, .int p0, .int p1] σ cSi (fX12_settlesOf σ p0 p1) := by
  refine Ct.of (by decide +kernel) rfl (Nat.le_of_ble_eq_true rfl) ?_
  unfold fX12_settlesOf
  show T _ _ _ 0 [(0, .ref 10), (1, .int p0), (2, .int p1)] [] _
  refine T_iconst (pc := 0) (v := 0) dX12_settlesOf_0 (by decide) ?_
  refine T_istore_n (pc := 1) (lv' := [(0, .ref 10), (1, .int p0), (2, .int p1), (3, .int (0 : Int32))]) dX12_settlesOf_1 rfl (by decide) rfl ?_
  refine T_iconst (pc := 2) (v := 0) dX12_settlesOf_2 (by decide) ?_
  refine T_istore (pc := 3) (lv' := [(0, .ref 10), (1, .int p0), (2, .int p1), (3, .int (0 : Int32)), (4, .int (0 : Int32))]) dX12_settlesOf_3 (by decide) rfl ?_
  exact fX12_settlesOf_P5_T p0 p1 σ (0 : Int32) (0 : Int32)
def kX12_next : Ks := (cX12_next, RX12, some .int, 6, 147, 6)
def fX12_next_L22 (v1 : Int32) (kb : St → Int32 → Int32 → Int32 → Option (Int32 × St)) (σ : St) (v2 : Int32) (v3 : Int32) (v4 : Int32) : Option (Int32 × St) :=
  if (zI σ 32) ≤ v4 then (some (v2, σ))
  else ((fX12_has v1 v4).bind fun x3 => if (bi x3) = 0 then ((fX12_settlesOf σ v4 v1).bind fun r4 => if v2 = (-1 : Int32) then (kb r4.2 v4 r4.1 (v4 + (1 : Int32)))
  else (if v3 < r4.1 then (kb r4.2 v4 r4.1 (v4 + (1 : Int32)))
  else (kb r4.2 v2 v3 (v4 + (1 : Int32)))))
  else (kb σ v2 v3 (v4 + (1 : Int32))))
set_option maxRecDepth 100000 in
set_option maxHeartbeats 4000000 in
theorem fX12_next_L22_T (v1 : Int32) (σ : St) {kb : St → Int32 → Int32 → Int32 → Option (Int32 × St)} (hkb : ∀ (σ' : St) (w2 : Int32) (w3 : Int32) (w4 : Int32), T kX12_next cSi σ' 22 [(0, .ref 10), (1, .int v1), (2, .int w2), (3, .int w3), (4, .int w4)] [] (kb σ' w2 w3 w4)) (v2 : Int32) (v3 : Int32) (v4 : Int32) : T kX12_next cSi σ 22 [(0, .ref 10), (1, .int v1), (2, .int v2), (3, .int v3), (4, .int v4)] [] (fX12_next_L22 v1 kb σ v2 v3 v4) := by
  unfold fX12_next_L22
  refine T_iload (pc := 22) 4 dX12_next_22 rfl ?_
  refine T_aload_n (pc := 24) 0 dX12_next_24 rfl rfl ?_
  refine T_getI (pc := 25) fd_10_8 hw1511 dX12_next_25 ?_
  refine T_icmp_ge (pc := 28) 78 dX12_next_28 (by decide) (fun _ => ?_) (fun _ => ?_)
  · refine T_iload_n (pc := 78) 2 dX12_next_78 rfl rfl ?_
    exact T_ireturn (pc := 79) rfl dX12_next_79 rfl
  · refine T_iload_n (pc := 31) 1 dX12_next_31 rfl rfl ?_
    refine T_iload (pc := 32) 4 dX12_next_32 rfl ?_
    refine T_callPz (pc := 34) (rest := []) (Rn_S (pc := 34) (as := [.int v1, .int v4]) (rest := []) (ctX12_has σ v1 v4) ms_X12_has hw1732 rfl ⟨Nat.le_of_ble_eq_true rfl, Nat.le_of_ble_eq_true rfl⟩ (Nat.le_of_ble_eq_true rfl) dX12_next_34 rfl) rfl (fun x3 => ?_)
    refine T_if_eq (pc := 37) 43 dX12_next_37 (by decide) (fun _ => ?_) (fun _ => ?_)
    · refine T_aload_n (pc := 43) 0 dX12_next_43 rfl rfl ?_
      refine T_iload (pc := 44) 4 dX12_next_44 rfl ?_
      refine T_iload_n (pc := 46) 1 dX12_next_46 rfl rfl ?_
      refine T_callSi (pc := 47) (rest := []) (Rn_V (pc := 47) (as := [.int v4, .int v1]) (rest := []) (ctX12_settlesOf σ v4 v1) rfl rfl mv_X12_settlesOf hw1996 rfl ⟨Nat.le_of_ble_eq_true rfl, Nat.le_of_ble_eq_true rfl⟩ (Nat.le_of_ble_eq_true rfl) dX12_next_47 rfl) rfl (fun r4 => ?_)
      refine T_istore (pc := 50) (lv' := [(0, .ref 10), (1, .int v1), (2, .int v2), (3, .int v3), (4, .int v4), (5, .int r4.1)]) dX12_next_50 (by decide) rfl ?_
      refine T_iload_n (pc := 52) 2 dX12_next_52 rfl rfl ?_
      refine T_iconst (pc := 53) (v := -1) dX12_next_53 (by decide) ?_
      refine T_icmp_eq (pc := 54) 66 dX12_next_54 (by decide) (fun _ => ?_) (fun _ => ?_)
      · refine T_iload (pc := 66) 4 dX12_next_66 rfl ?_
        refine T_istore_n (pc := 68) (lv' := [(0, .ref 10), (1, .int v1), (2, .int v4), (3, .int v3), (4, .int v4), (5, .int r4.1)]) dX12_next_68 rfl (by decide) rfl ?_
        refine T_iload (pc := 69) 5 dX12_next_69 rfl ?_
        refine T_istore_n (pc := 71) (lv' := [(0, .ref 10), (1, .int v1), (2, .int v4), (3, .int r4.1), (4, .int v4), (5, .int r4.1)]) dX12_next_71 rfl (by decide) rfl ?_
        refine T_iinc (pc := 72) (y := 1) (lv' := [(0, .ref 10), (1, .int v1), (2, .int v4), (3, .int r4.1), (4, .int (v4 + (1 : Int32))), (5, .int r4.1)]) 4 dX12_next_72 (by decide) rfl (by decide) rfl ?_
        refine T_goto (pc := 75) 22 dX12_next_75 (by decide) ?_
        refine T_pick (lv' := [(0, .ref 10), (1, .int v1), (2, .int v4), (3, .int r4.1), (4, .int (v4 + (1 : Int32)))]) [0, 1, 2, 3, 4] rfl ?_
        exact hkb r4.2 v4 r4.1 (v4 + (1 : Int32))
      · refine T_iload (pc := 57) 5 dX12_next_57 rfl ?_
        refine T_iload_n (pc := 59) 3 dX12_next_59 rfl rfl ?_
        refine T_icmp_gt (pc := 60) 66 dX12_next_60 (by decide) (fun _ => ?_) (fun _ => ?_)
        · refine T_iload (pc := 66) 4 dX12_next_66 rfl ?_
          refine T_istore_n (pc := 68) (lv' := [(0, .ref 10), (1, .int v1), (2, .int v4), (3, .int v3), (4, .int v4), (5, .int r4.1)]) dX12_next_68 rfl (by decide) rfl ?_
          refine T_iload (pc := 69) 5 dX12_next_69 rfl ?_
          refine T_istore_n (pc := 71) (lv' := [(0, .ref 10), (1, .int v1), (2, .int v4), (3, .int r4.1), (4, .int v4), (5, .int r4.1)]) dX12_next_71 rfl (by decide) rfl ?_
          refine T_iinc (pc := 72) (y := 1) (lv' := [(0, .ref 10), (1, .int v1), (2, .int v4), (3, .int r4.1), (4, .int (v4 + (1 : Int32))), (5, .int r4.1)]) 4 dX12_next_72 (by decide) rfl (by decide) rfl ?_
          refine T_goto (pc := 75) 22 dX12_next_75 (by decide) ?_
          refine T_pick (lv' := [(0, .ref 10), (1, .int v1), (2, .int v4), (3, .int r4.1), (4, .int (v4 + (1 : Int32)))]) [0, 1, 2, 3, 4] rfl ?_
          exact hkb r4.2 v4 r4.1 (v4 + (1 : Int32))
        · refine T_goto (pc := 63) 72 dX12_next_63 (by decide) ?_
          refine T_iinc (pc := 72) (y := 1) (lv' := [(0, .ref 10), (1, .int v1), (2, .int v2), (3, .int v3), (4, .int (v4 + (1 : Int32))), (5, .int r4.1)]) 4 dX12_next_72 (by decide) rfl (by decide) rfl ?_
          refine T_goto (pc := 75) 22 dX12_next_75 (by decide) ?_
          refine T_pick (lv' := [(0, .ref 10), (1, .int v1), (2, .int v2), (3, .int v3), (4, .int (v4 + (1 : Int32)))]) [0, 1, 2, 3, 4] rfl ?_
          exact hkb r4.2 v2 v3 (v4 + (1 : Int32))
    · refine T_goto (pc := 40) 72 dX12_next_40 (by decide) ?_
      refine T_iinc (pc := 72) (y := 1) (lv' := [(0, .ref 10), (1, .int v1), (2, .int v2), (3, .int v3), (4, .int (v4 + (1 : Int32)))]) 4 dX12_next_72 (by decide) rfl (by decide) rfl ?_
      refine T_goto (pc := 75) 22 dX12_next_75 (by decide) ?_
      exact hkb σ v2 v3 (v4 + (1 : Int32))
def fX12_next_P22 (v1 : Int32) (σ : St) (v2 : Int32) (v3 : Int32) (v4 : Int32) : Option (Int32 × St) := it (fun (kb : (St × Int32 × Int32 × Int32) → Option (Int32 × St)) (t : St × Int32 × Int32 × Int32) => fX12_next_L22 v1 (fun σ v2 v3 v4 => kb (σ, v2, v3, v4)) t.1 t.2.1 t.2.2.1 t.2.2.2) FU (σ, v2, v3, v4)
set_option maxRecDepth 100000 in
set_option maxHeartbeats 4000000 in
theorem fX12_next_P22_T (v1 : Int32) (σ : St) (v2 : Int32) (v3 : Int32) (v4 : Int32) : T kX12_next cSi σ 22 [(0, .ref 10), (1, .int v1), (2, .int v2), (3, .int v3), (4, .int v4)] [] (fX12_next_P22 v1 σ v2 v3 v4) :=
  it_T (S := (fun t : St × Int32 × Int32 × Int32 => t.1)) (lv := fun t : St × Int32 × Int32 × Int32 => [(0, .ref 10), (1, .int v1), (2, .int t.2.1), (3, .int t.2.2.1), (4, .int t.2.2.2)]) (st := fun _ => []) (fun kb hkb t => fX12_next_L22_T v1 (hkb := fun σ v2 v3 v4 => hkb (σ, v2, v3, v4)) t.1 t.2.1 t.2.2.1 t.2.2.2) FU (σ, v2, v3, v4)
def fX12_next (σ : St) (p0 : Int32) : Option (Int32 × St) :=
  (some (uI σ 30 (0 : Int32))).bind fun s1 => (fX12_areRolls s1 p0).bind fun x2 => if (bi x2) = 0 then (some ((-1 : Int32), s1))
  else (fX12_next_P22 p0 s1 (-1 : Int32) (0 : Int32) (0 : Int32))
set_option maxRecDepth 100000 in
set_option maxHeartbeats 4000000 in
theorem ctX12_next (σ : St) (p0 : Int32) : Ct yX12_next kX12_next [.ref 10, .int p0] σ cSi (fX12_next σ p0) := by
  refine Ct.of (by decide +kernel) rfl (Nat.le_of_ble_eq_true rfl) ?_
  unfold fX12_next
  show T _ _ _ 0 [(0, .ref 10), (1, .int p0)] [] _
  refine T_aload_n (pc := 0) 0 dX12_next_0 rfl rfl ?_
  refine T_iconst (pc := 1) (v := 0) dX12_next_1 (by decide) ?_
  refine T_putI (pc := 2) fd_10_0 hw1503 dX12_next_2 ?_
  refine T_letS (fun s1 => ?_)
  refine T_aload_n (pc := 5) 0 dX12_next_5 rfl rfl ?_
  refine T_iload_n (pc := 6) 1 dX12_next_6 rfl rfl ?_
  refine T_callPz (pc := 7) (rest := []) (Rn_V (pc := 7) (as := [.int p0]) (rest := []) (ctX12_areRolls s1 p0) rfl rfl mv_X12_areRolls hw1911 rfl ⟨Nat.le_of_ble_eq_true rfl, Nat.le_of_ble_eq_true rfl⟩ (Nat.le_of_ble_eq_true rfl) dX12_next_7 rfl) rfl (fun x2 => ?_)
  refine T_if_ne (pc := 10) 15 dX12_next_10 (by decide) (fun _ => ?_) (fun _ => ?_)
  · refine T_iconst (pc := 15) (v := -1) dX12_next_15 (by decide) ?_
    refine T_istore_n (pc := 16) (lv' := [(0, .ref 10), (1, .int p0), (2, .int (-1 : Int32))]) dX12_next_16 rfl (by decide) rfl ?_
    refine T_iconst (pc := 17) (v := 0) dX12_next_17 (by decide) ?_
    refine T_istore_n (pc := 18) (lv' := [(0, .ref 10), (1, .int p0), (2, .int (-1 : Int32)), (3, .int (0 : Int32))]) dX12_next_18 rfl (by decide) rfl ?_
    refine T_iconst (pc := 19) (v := 0) dX12_next_19 (by decide) ?_
    refine T_istore (pc := 20) (lv' := [(0, .ref 10), (1, .int p0), (2, .int (-1 : Int32)), (3, .int (0 : Int32)), (4, .int (0 : Int32))]) dX12_next_20 (by decide) rfl ?_
    exact fX12_next_P22_T p0 s1 (-1 : Int32) (0 : Int32) (0 : Int32)
  · refine T_iconst (pc := 13) (v := -1) dX12_next_13 (by decide) ?_
    exact T_ireturn (pc := 14) rfl dX12_next_14 rfl
def kX12_one : Ks := (cX12_one, RX12, some .int, 5, 122, 7)
def fX12_one_L77 (v2 : Int32) (v3 : Int32) (v4 : Int32) (v5 : Int32) (k1 : Int32 → Option (Int32 × St)) (kb : Int32 → Option (Int32 × St)) (σ : St) (v6 : Int32) : Option (Int32 × St) :=
  (fX12_isOfOthers σ v5 v2 v6).bind fun x7 => if (bi x7) = 0 then (kb (v6 + (1 : Int32)))
  else ((fX12_endsIt σ v5 v6).bind fun x8 => if (bi x8) = 0 then (kb (v6 + (1 : Int32)))
  else (k1 v6))
set_option maxRecDepth 100000 in
set_option maxHeartbeats 4000000 in
theorem fX12_one_L77_T (v2 : Int32) (v3 : Int32) (v4 : Int32) (v5 : Int32) (σ : St) {k1 : Int32 → Option (Int32 × St)} {kb : Int32 → Option (Int32 × St)} (hk1 : ∀ (w6 : Int32), T kX12_one cSi σ 106 [(0, .ref 10), (2, .int v2), (3, .int v3), (4, .int v4), (5, .int v5), (6, .int w6)] [] (k1 w6)) (hkb : ∀ (w6 : Int32), T kX12_one cSi σ 77 [(0, .ref 10), (2, .int v2), (3, .int v3), (4, .int v4), (5, .int v5), (6, .int w6)] [] (kb w6)) (v6 : Int32) : T kX12_one cSi σ 77 [(0, .ref 10), (2, .int v2), (3, .int v3), (4, .int v4), (5, .int v5), (6, .int v6)] [] (fX12_one_L77 v2 v3 v4 v5 k1 kb σ v6) := by
  unfold fX12_one_L77
  refine T_aload_n (pc := 77) 0 dX12_one_77 rfl rfl ?_
  refine T_iload (pc := 78) 4 dX12_one_78 rfl ?_
  refine T_iload_n (pc := 80) 1 dX12_one_80 rfl rfl ?_
  refine T_iload (pc := 81) 5 dX12_one_81 rfl ?_
  refine T_callPz (pc := 83) (rest := []) (Rn_V (pc := 83) (as := [.int v5, .int v2, .int v6]) (rest := []) (ctX12_isOfOthers σ v5 v2 v6) rfl rfl mv_X12_isOfOthers hw1919 rfl ⟨Nat.le_of_ble_eq_true rfl, Nat.le_of_ble_eq_true rfl⟩ (Nat.le_of_ble_eq_true rfl) dX12_one_83 rfl) rfl (fun x7 => ?_)
  refine T_if_eq (pc := 86) 100 dX12_one_86 (by decide) (fun _ => ?_) (fun _ => ?_)
  · refine T_iinc (pc := 100) (y := 1) (lv' := [(0, .ref 10), (2, .int v2), (3, .int v3), (4, .int v4), (5, .int v5), (6, .int (v6 + (1 : Int32)))]) 5 dX12_one_100 (by decide) rfl (by decide) rfl ?_
    refine T_goto (pc := 103) 77 dX12_one_103 (by decide) ?_
    exact hkb (v6 + (1 : Int32))
  · refine T_aload_n (pc := 89) 0 dX12_one_89 rfl rfl ?_
    refine T_iload (pc := 90) 4 dX12_one_90 rfl ?_
    refine T_iload (pc := 92) 5 dX12_one_92 rfl ?_
    refine T_callPz (pc := 94) (rest := []) (Rn_V (pc := 94) (as := [.int v5, .int v6]) (rest := []) (ctX12_endsIt σ v5 v6) rfl rfl mv_X12_endsIt hw1865 rfl ⟨Nat.le_of_ble_eq_true rfl, Nat.le_of_ble_eq_true rfl⟩ (Nat.le_of_ble_eq_true rfl) dX12_one_94 rfl) rfl (fun x8 => ?_)
    refine T_if_ne (pc := 97) 106 dX12_one_97 (by decide) (fun _ => ?_) (fun _ => ?_)
    · exact hk1 v6
    · refine T_iinc (pc := 100) (y := 1) (lv' := [(0, .ref 10), (2, .int v2), (3, .int v3), (4, .int v4), (5, .int v5), (6, .int (v6 + (1 : Int32)))]) 5 dX12_one_100 (by decide) rfl (by decide) rfl ?_
      refine T_goto (pc := 103) 77 dX12_one_103 (by decide) ?_
      exact hkb (v6 + (1 : Int32))
def fX12_one_P77 (v2 : Int32) (v3 : Int32) (v4 : Int32) (v5 : Int32) (k1 : Int32 → Option (Int32 × St)) (σ : St) (v6 : Int32) : Option (Int32 × St) := it (fun (kb : Int32 → Option (Int32 × St)) (t : Int32) => fX12_one_L77 v2 v3 v4 v5 k1 (fun v6 => kb v6) σ t) FU v6
set_option maxRecDepth 100000 in
set_option maxHeartbeats 4000000 in
theorem fX12_one_P77_T (v2 : Int32) (v3 : Int32) (v4 : Int32) (v5 : Int32) (σ : St) {k1 : Int32 → Option (Int32 × St)} (hk1 : ∀ (w6 : Int32), T kX12_one cSi σ 106 [(0, .ref 10), (2, .int v2), (3, .int v3), (4, .int v4), (5, .int v5), (6, .int w6)] [] (k1 w6)) (v6 : Int32) : T kX12_one cSi σ 77 [(0, .ref 10), (2, .int v2), (3, .int v3), (4, .int v4), (5, .int v5), (6, .int v6)] [] (fX12_one_P77 v2 v3 v4 v5 k1 σ v6) :=
  it_T (S := (fun _ : Int32 => σ)) (lv := fun t : Int32 => [(0, .ref 10), (2, .int v2), (3, .int v3), (4, .int v4), (5, .int v5), (6, .int t)]) (st := fun _ => []) (fun kb hkb t => fX12_one_L77_T v2 v3 v4 v5 (hk1 := hk1) (hkb := fun v6 => hkb v6) σ t) FU v6
def fX12_one_L43 (v2 : Int32) (v4 : Int32) (k1 : St → Int32 → Option (Int32 × St)) (kb : St → Int32 → Int32 → Option (Int32 × St)) (σ : St) (v3 : Int32) (v5 : Int32) : Option (Int32 × St) :=
  if (128 : Int32) ≤ v5 then (k1 σ v3)
  else ((fX12_isSpeech σ v5).bind fun x5 => if (bi x5) = 0 then (kb σ v3 (v5 + (1 : Int32)))
  else ((fX12_kindOf σ v5 v2).bind fun r6 => if r6.1 = (1 : Int32) then (fX12_one_P77 v2 v3 v4 v5 (fun x9 => nz (16 : Int32) ((fX12_has v3 (v5 / (16 : Int32))).bind fun x10 => if (bi x10) = 0 then (nz (16 : Int32) ((fX12_has v3 (x9 / (16 : Int32))).bind fun x12 => if (bi x12) = 0 then (kb r6.2 v3 (v5 + (1 : Int32)))
  else (nz (16 : Int32) (nz (16 : Int32) ((some ((v3 ||| (((1 : Int32) <<< ((v5 / (16 : Int32)) &&& 31)) ||| ((1 : Int32) <<< ((x9 / (16 : Int32)) &&& 31)))))).bind fun x13 => kb r6.2 x13 (v5 + (1 : Int32)))))))
  else (nz (16 : Int32) (nz (16 : Int32) ((some ((v3 ||| (((1 : Int32) <<< ((v5 / (16 : Int32)) &&& 31)) ||| ((1 : Int32) <<< ((x9 / (16 : Int32)) &&& 31)))))).bind fun x11 => kb r6.2 x11 (v5 + (1 : Int32))))))) r6.2 (0 : Int32))
  else (kb r6.2 v3 (v5 + (1 : Int32)))))
set_option maxRecDepth 100000 in
set_option maxHeartbeats 4000000 in
theorem fX12_one_L43_T (v2 : Int32) (v4 : Int32) (σ : St) {k1 : St → Int32 → Option (Int32 × St)} {kb : St → Int32 → Int32 → Option (Int32 × St)} (hk1 : ∀ (σ' : St) (w3 : Int32), T kX12_one cSi σ' 154 [(0, .ref 10), (2, .int v2), (3, .int w3), (4, .int v4)] [] (k1 σ' w3)) (hkb : ∀ (σ' : St) (w3 : Int32) (w5 : Int32), T kX12_one cSi σ' 43 [(0, .ref 10), (2, .int v2), (3, .int w3), (4, .int v4), (5, .int w5)] [] (kb σ' w3 w5)) (v3 : Int32) (v5 : Int32) : T kX12_one cSi σ 43 [(0, .ref 10), (2, .int v2), (3, .int v3), (4, .int v4), (5, .int v5)] [] (fX12_one_L43 v2 v4 k1 kb σ v3 v5) := by
  unfold fX12_one_L43
  refine T_iload (pc := 43) 4 dX12_one_43 rfl ?_
  refine T_sipush (pc := 45) (v := 128) dX12_one_45 (by decide) ?_
  refine T_icmp_ge (pc := 48) 154 dX12_one_48 (by decide) (fun _ => ?_) (fun _ => ?_)
  · refine T_pick (lv' := [(0, .ref 10), (2, .int v2), (3, .int v3), (4, .int v4)]) [0, 1, 2, 3] rfl ?_
    exact hk1 σ v3
  · refine T_aload_n (pc := 51) 0 dX12_one_51 rfl rfl ?_
    refine T_iload (pc := 52) 4 dX12_one_52 rfl ?_
    refine T_callPz (pc := 54) (rest := []) (Rn_V (pc := 54) (as := [.int v5]) (rest := []) (ctX12_isSpeech σ v5) rfl rfl mv_X12_isSpeech hw1849 rfl ⟨Nat.le_of_ble_eq_true rfl, Nat.le_of_ble_eq_true rfl⟩ (Nat.le_of_ble_eq_true rfl) dX12_one_54 rfl) rfl (fun x5 => ?_)
    refine T_if_eq (pc := 57) 148 dX12_one_57 (by decide) (fun _ => ?_) (fun _ => ?_)
    · refine T_iinc (pc := 148) (y := 1) (lv' := [(0, .ref 10), (2, .int v2), (3, .int v3), (4, .int v4), (5, .int (v5 + (1 : Int32)))]) 4 dX12_one_148 (by decide) rfl (by decide) rfl ?_
      refine T_goto (pc := 151) 43 dX12_one_151 (by decide) ?_
      exact hkb σ v3 (v5 + (1 : Int32))
    · refine T_aload_n (pc := 60) 0 dX12_one_60 rfl rfl ?_
      refine T_iload (pc := 61) 4 dX12_one_61 rfl ?_
      refine T_iload_n (pc := 63) 1 dX12_one_63 rfl rfl ?_
      refine T_callSi (pc := 64) (rest := []) (Rn_V (pc := 64) (as := [.int v5, .int v2]) (rest := []) (ctX12_kindOf σ v5 v2) rfl rfl mv_X12_kindOf hw1915 rfl ⟨Nat.le_of_ble_eq_true rfl, Nat.le_of_ble_eq_true rfl⟩ (Nat.le_of_ble_eq_true rfl) dX12_one_64 rfl) rfl (fun r6 => ?_)
      refine T_iconst (pc := 67) (v := 1) dX12_one_67 (by decide) ?_
      refine T_icmp_eq (pc := 68) 74 dX12_one_68 (by decide) (fun _ => ?_) (fun _ => ?_)
      · refine T_iconst (pc := 74) (v := 0) dX12_one_74 (by decide) ?_
        refine T_istore (pc := 75) (lv' := [(0, .ref 10), (2, .int v2), (3, .int v3), (4, .int v4), (5, .int v5), (6, .int (0 : Int32))]) dX12_one_75 (by decide) rfl ?_
        refine fX12_one_P77_T v2 v3 v4 v5 (hk1 := fun x9 => ?_) r6.2 (0 : Int32)
        · refine T_iload_n (pc := 106) 2 dX12_one_106 rfl rfl ?_
          refine T_iload (pc := 107) 4 dX12_one_107 rfl ?_
          refine T_bipush (pc := 109) (v := 16) dX12_one_109 (by decide) ?_
          refine T_idiv (pc := 111) dX12_one_111 ?_
          refine T_callPz (pc := 112) (rest := []) (Rn_S (pc := 112) (as := [.int v3, .int (v5 / (16 : Int32))]) (rest := []) (ctX12_has r6.2 v3 (v5 / (16 : Int32))) ms_X12_has hw1732 rfl ⟨Nat.le_of_ble_eq_true rfl, Nat.le_of_ble_eq_true rfl⟩ (Nat.le_of_ble_eq_true rfl) dX12_one_112 rfl) rfl (fun x10 => ?_)
          refine T_if_ne (pc := 115) 130 dX12_one_115 (by decide) (fun _ => ?_) (fun _ => ?_)
          · refine T_iload_n (pc := 130) 2 dX12_one_130 rfl rfl ?_
            refine T_iconst (pc := 131) (v := 1) dX12_one_131 (by decide) ?_
            refine T_iload (pc := 132) 4 dX12_one_132 rfl ?_
            refine T_bipush (pc := 134) (v := 16) dX12_one_134 (by decide) ?_
            refine T_idiv (pc := 136) dX12_one_136 ?_
            refine T_ishl (pc := 137) dX12_one_137 ?_
            refine T_iconst (pc := 138) (v := 1) dX12_one_138 (by decide) ?_
            refine T_iload (pc := 139) 5 dX12_one_139 rfl ?_
            refine T_bipush (pc := 141) (v := 16) dX12_one_141 (by decide) ?_
            refine T_idiv (pc := 143) dX12_one_143 ?_
            refine T_ishl (pc := 144) dX12_one_144 ?_
            refine T_ior (pc := 145) dX12_one_145 ?_
            refine T_ior (pc := 146) dX12_one_146 ?_
            refine T_letI (fun x11 => ?_)
            refine T_istore_n (pc := 147) (lv' := [(0, .ref 10), (2, .int v2), (3, .int x11), (4, .int v4), (5, .int v5), (6, .int x9)]) dX12_one_147 rfl (by decide) rfl ?_
            refine T_iinc (pc := 148) (y := 1) (lv' := [(0, .ref 10), (2, .int v2), (3, .int x11), (4, .int v4), (5, .int (v5 + (1 : Int32))), (6, .int x9)]) 4 dX12_one_148 (by decide) rfl (by decide) rfl ?_
            refine T_goto (pc := 151) 43 dX12_one_151 (by decide) ?_
            refine T_pick (lv' := [(0, .ref 10), (2, .int v2), (3, .int x11), (4, .int v4), (5, .int (v5 + (1 : Int32)))]) [0, 1, 2, 3, 4] rfl ?_
            exact hkb r6.2 x11 (v5 + (1 : Int32))
          · refine T_iload_n (pc := 118) 2 dX12_one_118 rfl rfl ?_
            refine T_iload (pc := 119) 5 dX12_one_119 rfl ?_
            refine T_bipush (pc := 121) (v := 16) dX12_one_121 (by decide) ?_
            refine T_idiv (pc := 123) dX12_one_123 ?_
            refine T_callPz (pc := 124) (rest := []) (Rn_S (pc := 124) (as := [.int v3, .int (x9 / (16 : Int32))]) (rest := []) (ctX12_has r6.2 v3 (x9 / (16 : Int32))) ms_X12_has hw1732 rfl ⟨Nat.le_of_ble_eq_true rfl, Nat.le_of_ble_eq_true rfl⟩ (Nat.le_of_ble_eq_true rfl) dX12_one_124 rfl) rfl (fun x12 => ?_)
            refine T_if_eq (pc := 127) 148 dX12_one_127 (by decide) (fun _ => ?_) (fun _ => ?_)
            · refine T_iinc (pc := 148) (y := 1) (lv' := [(0, .ref 10), (2, .int v2), (3, .int v3), (4, .int v4), (5, .int (v5 + (1 : Int32))), (6, .int x9)]) 4 dX12_one_148 (by decide) rfl (by decide) rfl ?_
              refine T_goto (pc := 151) 43 dX12_one_151 (by decide) ?_
              refine T_pick (lv' := [(0, .ref 10), (2, .int v2), (3, .int v3), (4, .int v4), (5, .int (v5 + (1 : Int32)))]) [0, 1, 2, 3, 4] rfl ?_
              exact hkb r6.2 v3 (v5 + (1 : Int32))
            · refine T_iload_n (pc := 130) 2 dX12_one_130 rfl rfl ?_
              refine T_iconst (pc := 131) (v := 1) dX12_one_131 (by decide) ?_
              refine T_iload (pc := 132) 4 dX12_one_132 rfl ?_
              refine T_bipush (pc := 134) (v := 16) dX12_one_134 (by decide) ?_
              refine T_idiv (pc := 136) dX12_one_136 ?_
              refine T_ishl (pc := 137) dX12_one_137 ?_
              refine T_iconst (pc := 138) (v := 1) dX12_one_138 (by decide) ?_
              refine T_iload (pc := 139) 5 dX12_one_139 rfl ?_
              refine T_bipush (pc := 141) (v := 16) dX12_one_141 (by decide) ?_
              refine T_idiv (pc := 143) dX12_one_143 ?_
              refine T_ishl (pc := 144) dX12_one_144 ?_
              refine T_ior (pc := 145) dX12_one_145 ?_
              refine T_ior (pc := 146) dX12_one_146 ?_
              refine T_letI (fun x13 => ?_)
              refine T_istore_n (pc := 147) (lv' := [(0, .ref 10), (2, .int v2), (3, .int x13), (4, .int v4), (5, .int v5), (6, .int x9)]) dX12_one_147 rfl (by decide) rfl ?_
              refine T_iinc (pc := 148) (y := 1) (lv' := [(0, .ref 10), (2, .int v2), (3, .int x13), (4, .int v4), (5, .int (v5 + (1 : Int32))), (6, .int x9)]) 4 dX12_one_148 (by decide) rfl (by decide) rfl ?_
              refine T_goto (pc := 151) 43 dX12_one_151 (by decide) ?_
              refine T_pick (lv' := [(0, .ref 10), (2, .int v2), (3, .int x13), (4, .int v4), (5, .int (v5 + (1 : Int32)))]) [0, 1, 2, 3, 4] rfl ?_
              exact hkb r6.2 x13 (v5 + (1 : Int32))
      · refine T_goto (pc := 71) 148 dX12_one_71 (by decide) ?_
        refine T_iinc (pc := 148) (y := 1) (lv' := [(0, .ref 10), (2, .int v2), (3, .int v3), (4, .int v4), (5, .int (v5 + (1 : Int32)))]) 4 dX12_one_148 (by decide) rfl (by decide) rfl ?_
        refine T_goto (pc := 151) 43 dX12_one_151 (by decide) ?_
        exact hkb r6.2 v3 (v5 + (1 : Int32))
def fX12_one_P43 (v2 : Int32) (v4 : Int32) (k1 : St → Int32 → Option (Int32 × St)) (σ : St) (v3 : Int32) (v5 : Int32) : Option (Int32 × St) := it (fun (kb : (St × Int32 × Int32) → Option (Int32 × St)) (t : St × Int32 × Int32) => fX12_one_L43 v2 v4 k1 (fun σ v3 v5 => kb (σ, v3, v5)) t.1 t.2.1 t.2.2) FU (σ, v3, v5)
set_option maxRecDepth 100000 in
set_option maxHeartbeats 4000000 in
theorem fX12_one_P43_T (v2 : Int32) (v4 : Int32) (σ : St) {k1 : St → Int32 → Option (Int32 × St)} (hk1 : ∀ (σ' : St) (w3 : Int32), T kX12_one cSi σ' 154 [(0, .ref 10), (2, .int v2), (3, .int w3), (4, .int v4)] [] (k1 σ' w3)) (v3 : Int32) (v5 : Int32) : T kX12_one cSi σ 43 [(0, .ref 10), (2, .int v2), (3, .int v3), (4, .int v4), (5, .int v5)] [] (fX12_one_P43 v2 v4 k1 σ v3 v5) :=
  it_T (S := (fun t : St × Int32 × Int32 => t.1)) (lv := fun t : St × Int32 × Int32 => [(0, .ref 10), (2, .int v2), (3, .int t.2.1), (4, .int v4), (5, .int t.2.2)]) (st := fun _ => []) (fun kb hkb t => fX12_one_L43_T v2 v4 (hk1 := hk1) (hkb := fun σ v3 v5 => hkb (σ, v3, v5)) t.1 t.2.1 t.2.2) FU (σ, v3, v5)
def fX12_one_L31 (v2 : Int32) (kb : St → Int32 → Int32 → Option (Int32 × St)) (σ : St) (v3 : Int32) (v4 : Int32) : Option (Int32 × St) :=
  if (zI σ 32) ≤ v4 then (some (v3, σ))
  else (fX12_one_P43 v2 v4 (fun s14 x15 => kb s14 x15 (v4 + (1 : Int32))) σ v3 (0 : Int32))
set_option maxRecDepth 100000 in
set_option maxHeartbeats 4000000 in
theorem fX12_one_L31_T (v2 : Int32) (σ : St) {kb : St → Int32 → Int32 → Option (Int32 × St)} (hkb : ∀ (σ' : St) (w3 : Int32) (w4 : Int32), T kX12_one cSi σ' 31 [(0, .ref 10), (2, .int v2), (3, .int w3), (4, .int w4)] [] (kb σ' w3 w4)) (v3 : Int32) (v4 : Int32) : T kX12_one cSi σ 31 [(0, .ref 10), (2, .int v2), (3, .int v3), (4, .int v4)] [] (fX12_one_L31 v2 kb σ v3 v4) := by
  unfold fX12_one_L31
  refine T_iload (pc := 31) 3 dX12_one_31 rfl ?_
  refine T_aload_n (pc := 33) 0 dX12_one_33 rfl rfl ?_
  refine T_getI (pc := 34) fd_10_8 hw1511 dX12_one_34 ?_
  refine T_icmp_ge (pc := 37) 160 dX12_one_37 (by decide) (fun _ => ?_) (fun _ => ?_)
  · refine T_iload_n (pc := 160) 2 dX12_one_160 rfl rfl ?_
    exact T_ireturn (pc := 161) rfl dX12_one_161 rfl
  · refine T_iconst (pc := 40) (v := 0) dX12_one_40 (by decide) ?_
    refine T_istore (pc := 41) (lv' := [(0, .ref 10), (2, .int v2), (3, .int v3), (4, .int v4), (5, .int (0 : Int32))]) dX12_one_41 (by decide) rfl ?_
    refine fX12_one_P43_T v2 v4 (hk1 := fun s14 x15 => ?_) σ v3 (0 : Int32)
    · refine T_iinc (pc := 154) (y := 1) (lv' := [(0, .ref 10), (2, .int v2), (3, .int x15), (4, .int (v4 + (1 : Int32)))]) 3 dX12_one_154 (by decide) rfl (by decide) rfl ?_
      refine T_goto (pc := 157) 31 dX12_one_157 (by decide) ?_
      exact hkb s14 x15 (v4 + (1 : Int32))
def fX12_one_P31 (v2 : Int32) (σ : St) (v3 : Int32) (v4 : Int32) : Option (Int32 × St) := it (fun (kb : (St × Int32 × Int32) → Option (Int32 × St)) (t : St × Int32 × Int32) => fX12_one_L31 v2 (fun σ v3 v4 => kb (σ, v3, v4)) t.1 t.2.1 t.2.2) FU (σ, v3, v4)
set_option maxRecDepth 100000 in
set_option maxHeartbeats 4000000 in
theorem fX12_one_P31_T (v2 : Int32) (σ : St) (v3 : Int32) (v4 : Int32) : T kX12_one cSi σ 31 [(0, .ref 10), (2, .int v2), (3, .int v3), (4, .int v4)] [] (fX12_one_P31 v2 σ v3 v4) :=
  it_T (S := (fun t : St × Int32 × Int32 => t.1)) (lv := fun t : St × Int32 × Int32 => [(0, .ref 10), (2, .int v2), (3, .int t.2.1), (4, .int t.2.2)]) (st := fun _ => []) (fun kb hkb t => fX12_one_L31_T v2 (hkb := fun σ v3 v4 => hkb (σ, v3, v4)) t.1 t.2.1 t.2.2) FU (σ, v3, v4)
def fX12_one (σ : St) (p0 : Int32) : Option (Int32 × St) :=
  (some (uI σ 30 (0 : Int32))).bind fun s1 => (fX12_isRoll s1 p0).bind fun x2 => if (bi x2) = 0 then (some ((-1 : Int32), s1))
  else ((some ((((1 : Int32) <<< ((zI s1 32) &&& 31)) - (1 : Int32)))).bind fun x3 => (some (((1 : Int32) <<< (p0 &&& 31)))).bind fun x4 => fX12_one_P31 x3 s1 x4 (0 : Int32))
set_option maxRecDepth 100000 in
set_option maxHeartbeats 4000000 in
theorem ctX12_one (σ : St) (p0 : Int32) : Ct yX12_one kX12_one [.ref 10, .int p0] σ cSi (fX12_one σ p0) := by
  refine Ct.of (by decide +kernel) rfl (Nat.le_of_ble_eq_true rfl) ?_
  unfold fX12_one
  show T _ _ _ 0 [(0, .ref 10), (1, .int p0)] [] _
  refine T_aload_n (pc := 0) 0 dX12_one_0 rfl rfl ?_
  refine T_iconst (pc := 1) (v := 0) dX12_one_1 (by decide) ?_
  refine T_putI (pc := 2) fd_10_0 hw1503 dX12_one_2 ?_
  refine T_letS (fun s1 => ?_)
  refine T_aload_n (pc := 5) 0 dX12_one_5 rfl rfl ?_
  refine T_iload_n (pc := 6) 1 dX12_one_6 rfl rfl ?_
  refine T_callPz (pc := 7) (rest := []) (Rn_V (pc := 7) (as := [.int p0]) (rest := []) (ctX12_isRoll s1 p0) rfl rfl mv_X12_isRoll hw1853 rfl ⟨Nat.le_of_ble_eq_true rfl, Nat.le_of_ble_eq_true rfl⟩ (Nat.le_of_ble_eq_true rfl) dX12_one_7 rfl) rfl (fun x2 => ?_)
  refine T_if_ne (pc := 10) 15 dX12_one_10 (by decide) (fun _ => ?_) (fun _ => ?_)
  · refine T_iconst (pc := 15) (v := 1) dX12_one_15 (by decide) ?_
    refine T_aload_n (pc := 16) 0 dX12_one_16 rfl rfl ?_
    refine T_getI (pc := 17) fd_10_8 hw1511 dX12_one_17 ?_
    refine T_ishl (pc := 20) dX12_one_20 ?_
    refine T_iconst (pc := 21) (v := 1) dX12_one_21 (by decide) ?_
    refine T_isub (pc := 22) dX12_one_22 ?_
    refine T_letI (fun x3 => ?_)
    refine T_istore_n (pc := 23) (lv' := [(0, .ref 10), (1, .int p0), (2, .int x3)]) dX12_one_23 rfl (by decide) rfl ?_
    refine T_iconst (pc := 24) (v := 1) dX12_one_24 (by decide) ?_
    refine T_iload_n (pc := 25) 1 dX12_one_25 rfl rfl ?_
    refine T_ishl (pc := 26) dX12_one_26 ?_
    refine T_letI (fun x4 => ?_)
    refine T_istore_n (pc := 27) (lv' := [(0, .ref 10), (1, .int p0), (2, .int x3), (3, .int x4)]) dX12_one_27 rfl (by decide) rfl ?_
    refine T_iconst (pc := 28) (v := 0) dX12_one_28 (by decide) ?_
    refine T_istore (pc := 29) (lv' := [(0, .ref 10), (1, .int p0), (2, .int x3), (3, .int x4), (4, .int (0 : Int32))]) dX12_one_29 (by decide) rfl ?_
    refine T_pick (lv' := [(0, .ref 10), (2, .int x3), (3, .int x4), (4, .int (0 : Int32))]) [0, 2, 3, 4] rfl ?_
    exact fX12_one_P31_T x3 s1 x4 (0 : Int32)
  · refine T_iconst (pc := 13) (v := -1) dX12_one_13 (by decide) ?_
    exact T_ireturn (pc := 14) rfl dX12_one_14 rfl
def kX12_orders : Ks := (cX12_orders, RX12, some .long, 5, 121, 2)
def fX12_orders (σ : St) (p0 : Int32) : Option (Int64 × St) :=
  (some (uI σ 30 (0 : Int32))).bind fun s1 => (fX12_isSmall s1 p0).bind fun r2 => if (bi r2.1) = 0 then (some ((-1 : Int64), r2.2))
  else ((fX12_layLeft r2.2).bind fun s3 => (rd (zB s3 76) 180009 (0 : Int32)).bind fun x4 => some (x4, s3))
set_option maxRecDepth 100000 in
set_option maxHeartbeats 4000000 in
theorem ctX12_orders (σ : St) (p0 : Int32) : Ct yX12_orders kX12_orders [.ref 10, .int p0] σ cSl (fX12_orders σ p0) := by
  refine Ct.of (by decide +kernel) rfl (Nat.le_of_ble_eq_true rfl) ?_
  unfold fX12_orders
  show T _ _ _ 0 [(0, .ref 10), (1, .int p0)] [] _
  refine T_aload_n (pc := 0) 0 dX12_orders_0 rfl rfl ?_
  refine T_iconst (pc := 1) (v := 0) dX12_orders_1 (by decide) ?_
  refine T_putI (pc := 2) fd_10_0 hw1503 dX12_orders_2 ?_
  refine T_letS (fun s1 => ?_)
  refine T_aload_n (pc := 5) 0 dX12_orders_5 rfl rfl ?_
  refine T_iload_n (pc := 6) 1 dX12_orders_6 rfl rfl ?_
  refine T_callSz (pc := 7) (rest := []) (Rn_V (pc := 7) (as := [.int p0]) (rest := []) (ctX12_isSmall s1 p0) rfl rfl mv_X12_isSmall hw1939 rfl ⟨Nat.le_of_ble_eq_true rfl, Nat.le_of_ble_eq_true rfl⟩ (Nat.le_of_ble_eq_true rfl) dX12_orders_7 rfl) rfl (fun r2 => ?_)
  refine T_if_ne (pc := 10) 17 dX12_orders_10 (by decide) (fun _ => ?_) (fun _ => ?_)
  · refine T_aload_n (pc := 17) 0 dX12_orders_17 rfl rfl ?_
    refine T_callSv (pc := 18) (rest := []) (Rn_V (pc := 18) (as := []) (rest := []) (ctX12_layLeft r2.2) rfl rfl mv_X12_layLeft hw1947 rfl ⟨Nat.le_of_ble_eq_true rfl, Nat.le_of_ble_eq_true rfl⟩ (Nat.le_of_ble_eq_true rfl) dX12_orders_18 rfl) rfl (fun s3 => ?_)
    refine T_aload_n (pc := 21) 0 dX12_orders_21 rfl rfl ?_
    refine T_getA (pc := 22) fd_10_40 hw1543 dX12_orders_22 ?_
    refine T_iconst (pc := 25) (v := 0) dX12_orders_25 (by decide) ?_
    refine T_lald (pc := 26) rfl dX12_orders_26 (fun x4 => ?_)
    exact T_lreturn (pc := 27) rfl dX12_orders_27 rfl
  · refine T_ldc2 (pc := 13) hw1967 dX12_orders_13 ?_
    exact T_lreturn (pc := 16) rfl dX12_orders_16 rfl
def kX12_play : Ks := (cX12_play, RX12, some .int, 1, 22, 2)
def fX12_play (σ : St) (p0 : Int32) : Option (Int32 × St) :=
  (some (uI σ 30 (0 : Int32))).bind fun s1 => if p0 = (-1 : Int32) then (some ((zI s1 48), s1))
  else ((fX12_isIn p0 (0 : Int32) ((zI s1 48) - (1 : Int32))).bind fun x2 => if (bi x2) = 0 then (some ((-1 : Int32), s1))
  else ((rd (zA s1 78) 96 p0).bind fun x3 => some (x3, s1)))
set_option maxRecDepth 100000 in
set_option maxHeartbeats 4000000 in
theorem ctX12_play (σ : St) (p0 : Int32) : Ct yX12_play kX12_play [.ref 10, .int p0] σ cSi (fX12_play σ p0) := by
  refine Ct.of (by decide +kernel) rfl (Nat.le_of_ble_eq_true rfl) ?_
  unfold fX12_play
  show T _ _ _ 0 [(0, .ref 10), (1, .int p0)] [] _
  refine T_aload_n (pc := 0) 0 dX12_play_0 rfl rfl ?_
  refine T_iconst (pc := 1) (v := 0) dX12_play_1 (by decide) ?_
  refine T_putI (pc := 2) fd_10_0 hw1503 dX12_play_2 ?_
  refine T_letS (fun s1 => ?_)
  refine T_iload_n (pc := 5) 1 dX12_play_5 rfl rfl ?_
  refine T_iconst (pc := 6) (v := -1) dX12_play_6 (by decide) ?_
  refine T_icmp_ne (pc := 7) 17 dX12_play_7 (by decide) (fun _ => ?_) (fun _ => ?_)
  · refine T_iload_n (pc := 17) 1 dX12_play_17 rfl rfl ?_
    refine T_iconst (pc := 18) (v := 0) dX12_play_18 (by decide) ?_
    refine T_aload_n (pc := 19) 0 dX12_play_19 rfl rfl ?_
    refine T_getI (pc := 20) fd_10_48 hw1551 dX12_play_20 ?_
    refine T_iconst (pc := 23) (v := 1) dX12_play_23 (by decide) ?_
    refine T_isub (pc := 24) dX12_play_24 ?_
    refine T_callPz (pc := 25) (rest := []) (Rn_S (pc := 25) (as := [.int p0, .int (0 : Int32), .int ((zI s1 48) - (1 : Int32))]) (rest := []) (ctX12_isIn s1 p0 (0 : Int32) ((zI s1 48) - (1 : Int32))) ms_X12_isIn hw1689 rfl ⟨Nat.le_of_ble_eq_true rfl, Nat.le_of_ble_eq_true rfl⟩ (Nat.le_of_ble_eq_true rfl) dX12_play_25 rfl) rfl (fun x2 => ?_)
    refine T_if_eq (pc := 28) 40 dX12_play_28 (by decide) (fun _ => ?_) (fun _ => ?_)
    · refine T_iconst (pc := 40) (v := -1) dX12_play_40 (by decide) ?_
      exact T_ireturn (pc := 41) rfl dX12_play_41 rfl
    · refine T_aload_n (pc := 31) 0 dX12_play_31 rfl rfl ?_
      refine T_getA (pc := 32) fd_10_44 hw1547 dX12_play_32 ?_
      refine T_iload_n (pc := 35) 1 dX12_play_35 rfl rfl ?_
      refine T_iald (pc := 36) rfl dX12_play_36 (fun x3 => ?_)
      refine T_goto (pc := 37) 41 dX12_play_37 (by decide) ?_
      exact T_ireturn (pc := 41) rfl dX12_play_41 rfl
  · refine T_aload_n (pc := 10) 0 dX12_play_10 rfl rfl ?_
    refine T_getI (pc := 11) fd_10_48 hw1551 dX12_play_11 ?_
    refine T_goto (pc := 14) 41 dX12_play_14 (by decide) ?_
    exact T_ireturn (pc := 41) rfl dX12_play_41 rfl
def kX12_plot : Ks := (cX12_plot, RX12, some .int, 1, 23, 3)
def fX12_plot (σ : St) (p0 : Int32) (p1 : Int32) : Option (Int32 × St) :=
  (some (uI σ 30 (0 : Int32))).bind fun s1 => (fX12_isPlot s1 p0).bind fun x2 => if (bi x2) = 0 then (some ((-1 : Int32), s1))
  else (if p1 = (-1 : Int32) then ((fX12_partsOf s1 p0).bind fun x6 => some (x6, s1))
  else ((rd (zA s1 67) 5 p0).bind fun x3 => (fX12_isIn p1 (0 : Int32) (x3 - (1 : Int32))).bind fun x4 => if (bi x4) = 0 then (some ((-1 : Int32), s1))
  else ((rd (zA s1 68) 100 (((20 : Int32) * p0) + p1)).bind fun x5 => some (x5, s1))))
set_option maxRecDepth 100000 in
set_option maxHeartbeats 4000000 in
theorem ctX12_plot (σ : St) (p0 : Int32) (p1 : Int32) : Ct yX12_plot kX12_plot [.ref 10, .int p0, .int p1] σ cSi (fX12_plot σ p0 p1) := by
  refine Ct.of (by decide +kernel) rfl (Nat.le_of_ble_eq_true rfl) ?_
  unfold fX12_plot
  show T _ _ _ 0 [(0, .ref 10), (1, .int p0), (2, .int p1)] [] _
  refine T_aload_n (pc := 0) 0 dX12_plot_0 rfl rfl ?_
  refine T_iconst (pc := 1) (v := 0) dX12_plot_1 (by decide) ?_
  refine T_putI (pc := 2) fd_10_0 hw1503 dX12_plot_2 ?_
  refine T_letS (fun s1 => ?_)
  refine T_aload_n (pc := 5) 0 dX12_plot_5 rfl rfl ?_
  refine T_iload_n (pc := 6) 1 dX12_plot_6 rfl rfl ?_
  refine T_callPz (pc := 7) (rest := []) (Rn_V (pc := 7) (as := [.int p0]) (rest := []) (ctX12_isPlot s1 p0) rfl rfl mv_X12_isPlot hw2056 rfl ⟨Nat.le_of_ble_eq_true rfl, Nat.le_of_ble_eq_true rfl⟩ (Nat.le_of_ble_eq_true rfl) dX12_plot_7 rfl) rfl (fun x2 => ?_)
  refine T_if_ne (pc := 10) 15 dX12_plot_10 (by decide) (fun _ => ?_) (fun _ => ?_)
  · refine T_iload_n (pc := 15) 2 dX12_plot_15 rfl rfl ?_
    refine T_iconst (pc := 16) (v := -1) dX12_plot_16 (by decide) ?_
    refine T_icmp_ne (pc := 17) 28 dX12_plot_17 (by decide) (fun _ => ?_) (fun _ => ?_)
    · refine T_iload_n (pc := 28) 2 dX12_plot_28 rfl rfl ?_
      refine T_iconst (pc := 29) (v := 0) dX12_plot_29 (by decide) ?_
      refine T_aload_n (pc := 30) 0 dX12_plot_30 rfl rfl ?_
      refine T_getA (pc := 31) fd_10_28 hw1531 dX12_plot_31 ?_
      refine T_iload_n (pc := 34) 1 dX12_plot_34 rfl rfl ?_
      refine T_iald (pc := 35) rfl dX12_plot_35 (fun x3 => ?_)
      refine T_iconst (pc := 36) (v := 1) dX12_plot_36 (by decide) ?_
      refine T_isub (pc := 37) dX12_plot_37 ?_
      refine T_callPz (pc := 38) (rest := []) (Rn_S (pc := 38) (as := [.int p1, .int (0 : Int32), .int (x3 - (1 : Int32))]) (rest := []) (ctX12_isIn s1 p1 (0 : Int32) (x3 - (1 : Int32))) ms_X12_isIn hw1689 rfl ⟨Nat.le_of_ble_eq_true rfl, Nat.le_of_ble_eq_true rfl⟩ (Nat.le_of_ble_eq_true rfl) dX12_plot_38 rfl) rfl (fun x4 => ?_)
      refine T_if_eq (pc := 41) 58 dX12_plot_41 (by decide) (fun _ => ?_) (fun _ => ?_)
      · refine T_iconst (pc := 58) (v := -1) dX12_plot_58 (by decide) ?_
        exact T_ireturn (pc := 59) rfl dX12_plot_59 rfl
      · refine T_aload_n (pc := 44) 0 dX12_plot_44 rfl rfl ?_
        refine T_getA (pc := 45) fd_10_29 hw1532 dX12_plot_45 ?_
        refine T_bipush (pc := 48) (v := 20) dX12_plot_48 (by decide) ?_
        refine T_iload_n (pc := 50) 1 dX12_plot_50 rfl rfl ?_
        refine T_imul (pc := 51) dX12_plot_51 ?_
        refine T_iload_n (pc := 52) 2 dX12_plot_52 rfl rfl ?_
        refine T_iadd (pc := 53) dX12_plot_53 ?_
        refine T_iald (pc := 54) rfl dX12_plot_54 (fun x5 => ?_)
        refine T_goto (pc := 55) 59 dX12_plot_55 (by decide) ?_
        exact T_ireturn (pc := 59) rfl dX12_plot_59 rfl
    · refine T_aload_n (pc := 20) 0 dX12_plot_20 rfl rfl ?_
      refine T_iload_n (pc := 21) 1 dX12_plot_21 rfl rfl ?_
      refine T_callPi (pc := 22) (rest := []) (Rn_V (pc := 22) (as := [.int p0]) (rest := []) (ctX12_partsOf s1 p0) rfl rfl mv_X12_partsOf hw2060 rfl ⟨Nat.le_of_ble_eq_true rfl, Nat.le_of_ble_eq_true rfl⟩ (Nat.le_of_ble_eq_true rfl) dX12_plot_22 rfl) rfl (fun x6 => ?_)
      refine T_goto (pc := 25) 59 dX12_plot_25 (by decide) ?_
      exact T_ireturn (pc := 59) rfl dX12_plot_59 rfl
  · refine T_iconst (pc := 13) (v := -1) dX12_plot_13 (by decide) ?_
    exact T_ireturn (pc := 14) rfl dX12_plot_14 rfl
def kX12_rehearse : Ks := (cX12_rehearse, RX12, some .int, 4, 95, 3)
def fX12_rehearse (σ : St) (p0 : Int32) (p1 : Int32) : Option (Int32 × St) :=
  (some (uI σ 30 (0 : Int32))).bind fun s1 => (fX12_areRolls s1 p0).bind fun x2 => if (bi x2) = 0 then (some ((-1 : Int32), s1))
  else ((fX12_goRehearsal s1 p0).bind fun s3 => if p1 = (-1 : Int32) then (some ((zI s3 49), s3))
  else ((fX12_isIn p1 (0 : Int32) ((zI s3 49) - (1 : Int32))).bind fun x4 => if (bi x4) = 0 then (some ((-1 : Int32), s3))
  else ((rd (zA s3 79) 96 p1).bind fun x5 => some (x5, s3))))
set_option maxRecDepth 100000 in
set_option maxHeartbeats 4000000 in
theorem ctX12_rehearse (σ : St) (p0 : Int32) (p1 : Int32) : Ct yX12_rehearse kX12_rehearse [.ref 10, .int p0, .int p1] σ cSi (fX12_rehearse σ p0 p1) := by
  refine Ct.of (by decide +kernel) rfl (Nat.le_of_ble_eq_true rfl) ?_
  unfold fX12_rehearse
  show T _ _ _ 0 [(0, .ref 10), (1, .int p0), (2, .int p1)] [] _
  refine T_aload_n (pc := 0) 0 dX12_rehearse_0 rfl rfl ?_
  refine T_iconst (pc := 1) (v := 0) dX12_rehearse_1 (by decide) ?_
  refine T_putI (pc := 2) fd_10_0 hw1503 dX12_rehearse_2 ?_
  refine T_letS (fun s1 => ?_)
  refine T_aload_n (pc := 5) 0 dX12_rehearse_5 rfl rfl ?_
  refine T_iload_n (pc := 6) 1 dX12_rehearse_6 rfl rfl ?_
  refine T_callPz (pc := 7) (rest := []) (Rn_V (pc := 7) (as := [.int p0]) (rest := []) (ctX12_areRolls s1 p0) rfl rfl mv_X12_areRolls hw1911 rfl ⟨Nat.le_of_ble_eq_true rfl, Nat.le_of_ble_eq_true rfl⟩ (Nat.le_of_ble_eq_true rfl) dX12_rehearse_7 rfl) rfl (fun x2 => ?_)
  refine T_if_ne (pc := 10) 15 dX12_rehearse_10 (by decide) (fun _ => ?_) (fun _ => ?_)
  · refine T_aload_n (pc := 15) 0 dX12_rehearse_15 rfl rfl ?_
    refine T_iload_n (pc := 16) 1 dX12_rehearse_16 rfl rfl ?_
    refine T_callSv (pc := 17) (rest := []) (Rn_V (pc := 17) (as := [.int p0]) (rest := []) (ctX12_goRehearsal s1 p0) rfl rfl mv_X12_goRehearsal hw2024 rfl ⟨Nat.le_of_ble_eq_true rfl, Nat.le_of_ble_eq_true rfl⟩ (Nat.le_of_ble_eq_true rfl) dX12_rehearse_17 rfl) rfl (fun s3 => ?_)
    refine T_iload_n (pc := 20) 2 dX12_rehearse_20 rfl rfl ?_
    refine T_iconst (pc := 21) (v := -1) dX12_rehearse_21 (by decide) ?_
    refine T_icmp_ne (pc := 22) 32 dX12_rehearse_22 (by decide) (fun _ => ?_) (fun _ => ?_)
    · refine T_iload_n (pc := 32) 2 dX12_rehearse_32 rfl rfl ?_
      refine T_iconst (pc := 33) (v := 0) dX12_rehearse_33 (by decide) ?_
      refine T_aload_n (pc := 34) 0 dX12_rehearse_34 rfl rfl ?_
      refine T_getI (pc := 35) fd_10_49 hw1552 dX12_rehearse_35 ?_
      refine T_iconst (pc := 38) (v := 1) dX12_rehearse_38 (by decide) ?_
      refine T_isub (pc := 39) dX12_rehearse_39 ?_
      refine T_callPz (pc := 40) (rest := []) (Rn_S (pc := 40) (as := [.int p1, .int (0 : Int32), .int ((zI s3 49) - (1 : Int32))]) (rest := []) (ctX12_isIn s3 p1 (0 : Int32) ((zI s3 49) - (1 : Int32))) ms_X12_isIn hw1689 rfl ⟨Nat.le_of_ble_eq_true rfl, Nat.le_of_ble_eq_true rfl⟩ (Nat.le_of_ble_eq_true rfl) dX12_rehearse_40 rfl) rfl (fun x4 => ?_)
      refine T_if_eq (pc := 43) 55 dX12_rehearse_43 (by decide) (fun _ => ?_) (fun _ => ?_)
      · refine T_iconst (pc := 55) (v := -1) dX12_rehearse_55 (by decide) ?_
        exact T_ireturn (pc := 56) rfl dX12_rehearse_56 rfl
      · refine T_aload_n (pc := 46) 0 dX12_rehearse_46 rfl rfl ?_
        refine T_getA (pc := 47) fd_10_45 hw1548 dX12_rehearse_47 ?_
        refine T_iload_n (pc := 50) 2 dX12_rehearse_50 rfl rfl ?_
        refine T_iald (pc := 51) rfl dX12_rehearse_51 (fun x5 => ?_)
        refine T_goto (pc := 52) 56 dX12_rehearse_52 (by decide) ?_
        exact T_ireturn (pc := 56) rfl dX12_rehearse_56 rfl
    · refine T_aload_n (pc := 25) 0 dX12_rehearse_25 rfl rfl ?_
      refine T_getI (pc := 26) fd_10_49 hw1552 dX12_rehearse_26 ?_
      refine T_goto (pc := 29) 56 dX12_rehearse_29 (by decide) ?_
      exact T_ireturn (pc := 56) rfl dX12_rehearse_56 rfl
  · refine T_iconst (pc := 13) (v := -1) dX12_rehearse_13 (by decide) ?_
    exact T_ireturn (pc := 14) rfl dX12_rehearse_14 rfl
def kX12_settles : Ks := (cX12_settles, RX12, some .int, 6, 147, 3)
def fX12_settles (σ : St) (p0 : Int32) (p1 : Int32) : Option (Int32 × St) :=
  (some (uI σ 30 (0 : Int32))).bind fun s1 => (fX12_isRoll s1 p0).bind fun x2 => if (bi x2) = 0 then (some ((-1 : Int32), s1))
  else ((fX12_areRolls s1 p1).bind fun x3 => if (bi x3) = 0 then (some ((-1 : Int32), s1))
  else ((fX12_has p1 p0).bind fun x4 => if (bi x4) = 0 then ((fX12_settlesOf s1 p0 p1).bind fun r5 => some (r5.1, r5.2))
  else (some ((-1 : Int32), s1))))
set_option maxRecDepth 100000 in
set_option maxHeartbeats 4000000 in
theorem ctX12_settles (σ : St) (p0 : Int32) (p1 : Int32) : Ct yX12_settles kX12_settles [.ref 10, .int p0, .int p1] σ cSi (fX12_settles σ p0 p1) := by
  refine Ct.of (by decide +kernel) rfl (Nat.le_of_ble_eq_true rfl) ?_
  unfold fX12_settles
  show T _ _ _ 0 [(0, .ref 10), (1, .int p0), (2, .int p1)] [] _
  refine T_aload_n (pc := 0) 0 dX12_settles_0 rfl rfl ?_
  refine T_iconst (pc := 1) (v := 0) dX12_settles_1 (by decide) ?_
  refine T_putI (pc := 2) fd_10_0 hw1503 dX12_settles_2 ?_
  refine T_letS (fun s1 => ?_)
  refine T_aload_n (pc := 5) 0 dX12_settles_5 rfl rfl ?_
  refine T_iload_n (pc := 6) 1 dX12_settles_6 rfl rfl ?_
  refine T_callPz (pc := 7) (rest := []) (Rn_V (pc := 7) (as := [.int p0]) (rest := []) (ctX12_isRoll s1 p0) rfl rfl mv_X12_isRoll hw1853 rfl ⟨Nat.le_of_ble_eq_true rfl, Nat.le_of_ble_eq_true rfl⟩ (Nat.le_of_ble_eq_true rfl) dX12_settles_7 rfl) rfl (fun x2 => ?_)
  refine T_if_eq (pc := 10) 38 dX12_settles_10 (by decide) (fun _ => ?_) (fun _ => ?_)
  · refine T_iconst (pc := 38) (v := -1) dX12_settles_38 (by decide) ?_
    exact T_ireturn (pc := 39) rfl dX12_settles_39 rfl
  · refine T_aload_n (pc := 13) 0 dX12_settles_13 rfl rfl ?_
    refine T_iload_n (pc := 14) 2 dX12_settles_14 rfl rfl ?_
    refine T_callPz (pc := 15) (rest := []) (Rn_V (pc := 15) (as := [.int p1]) (rest := []) (ctX12_areRolls s1 p1) rfl rfl mv_X12_areRolls hw1911 rfl ⟨Nat.le_of_ble_eq_true rfl, Nat.le_of_ble_eq_true rfl⟩ (Nat.le_of_ble_eq_true rfl) dX12_settles_15 rfl) rfl (fun x3 => ?_)
    refine T_if_eq (pc := 18) 38 dX12_settles_18 (by decide) (fun _ => ?_) (fun _ => ?_)
    · refine T_iconst (pc := 38) (v := -1) dX12_settles_38 (by decide) ?_
      exact T_ireturn (pc := 39) rfl dX12_settles_39 rfl
    · refine T_iload_n (pc := 21) 2 dX12_settles_21 rfl rfl ?_
      refine T_iload_n (pc := 22) 1 dX12_settles_22 rfl rfl ?_
      refine T_callPz (pc := 23) (rest := []) (Rn_S (pc := 23) (as := [.int p1, .int p0]) (rest := []) (ctX12_has s1 p1 p0) ms_X12_has hw1732 rfl ⟨Nat.le_of_ble_eq_true rfl, Nat.le_of_ble_eq_true rfl⟩ (Nat.le_of_ble_eq_true rfl) dX12_settles_23 rfl) rfl (fun x4 => ?_)
      refine T_if_ne (pc := 26) 38 dX12_settles_26 (by decide) (fun _ => ?_) (fun _ => ?_)
      · refine T_iconst (pc := 38) (v := -1) dX12_settles_38 (by decide) ?_
        exact T_ireturn (pc := 39) rfl dX12_settles_39 rfl
      · refine T_aload_n (pc := 29) 0 dX12_settles_29 rfl rfl ?_
        refine T_iload_n (pc := 30) 1 dX12_settles_30 rfl rfl ?_
        refine T_iload_n (pc := 31) 2 dX12_settles_31 rfl rfl ?_
        refine T_callSi (pc := 32) (rest := []) (Rn_V (pc := 32) (as := [.int p0, .int p1]) (rest := []) (ctX12_settlesOf s1 p0 p1) rfl rfl mv_X12_settlesOf hw1996 rfl ⟨Nat.le_of_ble_eq_true rfl, Nat.le_of_ble_eq_true rfl⟩ (Nat.le_of_ble_eq_true rfl) dX12_settles_32 rfl) rfl (fun r5 => ?_)
        refine T_goto (pc := 35) 39 dX12_settles_35 (by decide) ?_
        exact T_ireturn (pc := 39) rfl dX12_settles_39 rfl
def kX12_soon : Ks := (cX12_soon, RX12, some .int, 4, 95, 4)
def fX12_soon_L24 (kb : Int32 → Int32 → Option (Int32 × St)) (σ : St) (v2 : Int32) (v3 : Int32) : Option (Int32 × St) :=
  if (zI σ 48) ≤ v3 then (some (v2, σ))
  else (if (zI σ 49) ≤ v3 then ((some ((v2 + (1 : Int32)))).bind fun x4 => kb x4 (v3 + (1 : Int32)))
  else ((rd (zA σ 79) 96 v3).bind fun x5 => (rd (zA σ 78) 96 v3).bind fun x6 => if x5 = x6 then ((some ((v2 + (0 : Int32)))).bind fun x7 => kb x7 (v3 + (1 : Int32)))
  else ((some ((v2 + (1 : Int32)))).bind fun x8 => kb x8 (v3 + (1 : Int32)))))
set_option maxRecDepth 100000 in
set_option maxHeartbeats 4000000 in
theorem fX12_soon_L24_T (σ : St) {kb : Int32 → Int32 → Option (Int32 × St)} (hkb : ∀ (w2 : Int32) (w3 : Int32), T kX12_soon cSi σ 24 [(0, .ref 10), (2, .int w2), (3, .int w3)] [] (kb w2 w3)) (v2 : Int32) (v3 : Int32) : T kX12_soon cSi σ 24 [(0, .ref 10), (2, .int v2), (3, .int v3)] [] (fX12_soon_L24 kb σ v2 v3) := by
  unfold fX12_soon_L24
  refine T_iload_n (pc := 24) 2 dX12_soon_24 rfl rfl ?_
  refine T_aload_n (pc := 25) 0 dX12_soon_25 rfl rfl ?_
  refine T_getI (pc := 26) fd_10_48 hw1551 dX12_soon_26 ?_
  refine T_icmp_ge (pc := 29) 69 dX12_soon_29 (by decide) (fun _ => ?_) (fun _ => ?_)
  · refine T_iload_n (pc := 69) 1 dX12_soon_69 rfl rfl ?_
    exact T_ireturn (pc := 70) rfl dX12_soon_70 rfl
  · refine T_iload_n (pc := 32) 1 dX12_soon_32 rfl rfl ?_
    refine T_iload_n (pc := 33) 2 dX12_soon_33 rfl rfl ?_
    refine T_aload_n (pc := 34) 0 dX12_soon_34 rfl rfl ?_
    refine T_getI (pc := 35) fd_10_49 hw1552 dX12_soon_35 ?_
    refine T_icmp_ge (pc := 38) 56 dX12_soon_38 (by decide) (fun _ => ?_) (fun _ => ?_)
    · refine T_iconst (pc := 56) (v := 1) dX12_soon_56 (by decide) ?_
      refine T_goto (pc := 57) 61 dX12_soon_57 (by decide) ?_
      refine T_iadd (pc := 61) dX12_soon_61 ?_
      refine T_letI (fun x4 => ?_)
      refine T_istore_n (pc := 62) (lv' := [(0, .ref 10), (2, .int x4), (3, .int v3)]) dX12_soon_62 rfl (by decide) rfl ?_
      refine T_iinc (pc := 63) (y := 1) (lv' := [(0, .ref 10), (2, .int x4), (3, .int (v3 + (1 : Int32)))]) 2 dX12_soon_63 (by decide) rfl (by decide) rfl ?_
      refine T_goto (pc := 66) 24 dX12_soon_66 (by decide) ?_
      exact hkb x4 (v3 + (1 : Int32))
    · refine T_aload_n (pc := 41) 0 dX12_soon_41 rfl rfl ?_
      refine T_getA (pc := 42) fd_10_45 hw1548 dX12_soon_42 ?_
      refine T_iload_n (pc := 45) 2 dX12_soon_45 rfl rfl ?_
      refine T_iald (pc := 46) rfl dX12_soon_46 (fun x5 => ?_)
      refine T_aload_n (pc := 47) 0 dX12_soon_47 rfl rfl ?_
      refine T_getA (pc := 48) fd_10_44 hw1547 dX12_soon_48 ?_
      refine T_iload_n (pc := 51) 2 dX12_soon_51 rfl rfl ?_
      refine T_iald (pc := 52) rfl dX12_soon_52 (fun x6 => ?_)
      refine T_icmp_eq (pc := 53) 60 dX12_soon_53 (by decide) (fun _ => ?_) (fun _ => ?_)
      · refine T_iconst (pc := 60) (v := 0) dX12_soon_60 (by decide) ?_
        refine T_iadd (pc := 61) dX12_soon_61 ?_
        refine T_letI (fun x7 => ?_)
        refine T_istore_n (pc := 62) (lv' := [(0, .ref 10), (2, .int x7), (3, .int v3)]) dX12_soon_62 rfl (by decide) rfl ?_
        refine T_iinc (pc := 63) (y := 1) (lv' := [(0, .ref 10), (2, .int x7), (3, .int (v3 + (1 : Int32)))]) 2 dX12_soon_63 (by decide) rfl (by decide) rfl ?_
        refine T_goto (pc := 66) 24 dX12_soon_66 (by decide) ?_
        exact hkb x7 (v3 + (1 : Int32))
      · refine T_iconst (pc := 56) (v := 1) dX12_soon_56 (by decide) ?_
        refine T_goto (pc := 57) 61 dX12_soon_57 (by decide) ?_
        refine T_iadd (pc := 61) dX12_soon_61 ?_
        refine T_letI (fun x8 => ?_)
        refine T_istore_n (pc := 62) (lv' := [(0, .ref 10), (2, .int x8), (3, .int v3)]) dX12_soon_62 rfl (by decide) rfl ?_
        refine T_iinc (pc := 63) (y := 1) (lv' := [(0, .ref 10), (2, .int x8), (3, .int (v3 + (1 : Int32)))]) 2 dX12_soon_63 (by decide) rfl (by decide) rfl ?_
        refine T_goto (pc := 66) 24 dX12_soon_66 (by decide) ?_
        exact hkb x8 (v3 + (1 : Int32))
def fX12_soon_P24 (σ : St) (v2 : Int32) (v3 : Int32) : Option (Int32 × St) := it (fun (kb : (Int32 × Int32) → Option (Int32 × St)) (t : Int32 × Int32) => fX12_soon_L24 (fun v2 v3 => kb (v2, v3)) σ t.1 t.2) FU (v2, v3)
set_option maxRecDepth 100000 in
set_option maxHeartbeats 4000000 in
theorem fX12_soon_P24_T (σ : St) (v2 : Int32) (v3 : Int32) : T kX12_soon cSi σ 24 [(0, .ref 10), (2, .int v2), (3, .int v3)] [] (fX12_soon_P24 σ v2 v3) :=
  it_T (S := (fun _ : Int32 × Int32 => σ)) (lv := fun t : Int32 × Int32 => [(0, .ref 10), (2, .int t.1), (3, .int t.2)]) (st := fun _ => []) (fun kb hkb t => fX12_soon_L24_T (hkb := fun v2 v3 => hkb (v2, v3)) σ t.1 t.2) FU (v2, v3)
def fX12_soon (σ : St) (p0 : Int32) : Option (Int32 × St) :=
  (some (uI σ 30 (0 : Int32))).bind fun s1 => (fX12_areRolls s1 p0).bind fun x2 => if (bi x2) = 0 then (some ((-1 : Int32), s1))
  else ((fX12_goRehearsal s1 p0).bind fun s3 => fX12_soon_P24 s3 (0 : Int32) (0 : Int32))
set_option maxRecDepth 100000 in
set_option maxHeartbeats 4000000 in
theorem ctX12_soon (σ : St) (p0 : Int32) : Ct yX12_soon kX12_soon [.ref 10, .int p0] σ cSi (fX12_soon σ p0) := by
  refine Ct.of (by decide +kernel) rfl (Nat.le_of_ble_eq_true rfl) ?_
  unfold fX12_soon
  show T _ _ _ 0 [(0, .ref 10), (1, .int p0)] [] _
  refine T_aload_n (pc := 0) 0 dX12_soon_0 rfl rfl ?_
  refine T_iconst (pc := 1) (v := 0) dX12_soon_1 (by decide) ?_
  refine T_putI (pc := 2) fd_10_0 hw1503 dX12_soon_2 ?_
  refine T_letS (fun s1 => ?_)
  refine T_aload_n (pc := 5) 0 dX12_soon_5 rfl rfl ?_
  refine T_iload_n (pc := 6) 1 dX12_soon_6 rfl rfl ?_
  refine T_callPz (pc := 7) (rest := []) (Rn_V (pc := 7) (as := [.int p0]) (rest := []) (ctX12_areRolls s1 p0) rfl rfl mv_X12_areRolls hw1911 rfl ⟨Nat.le_of_ble_eq_true rfl, Nat.le_of_ble_eq_true rfl⟩ (Nat.le_of_ble_eq_true rfl) dX12_soon_7 rfl) rfl (fun x2 => ?_)
  refine T_if_ne (pc := 10) 15 dX12_soon_10 (by decide) (fun _ => ?_) (fun _ => ?_)
  · refine T_aload_n (pc := 15) 0 dX12_soon_15 rfl rfl ?_
    refine T_iload_n (pc := 16) 1 dX12_soon_16 rfl rfl ?_
    refine T_callSv (pc := 17) (rest := []) (Rn_V (pc := 17) (as := [.int p0]) (rest := []) (ctX12_goRehearsal s1 p0) rfl rfl mv_X12_goRehearsal hw2024 rfl ⟨Nat.le_of_ble_eq_true rfl, Nat.le_of_ble_eq_true rfl⟩ (Nat.le_of_ble_eq_true rfl) dX12_soon_17 rfl) rfl (fun s3 => ?_)
    refine T_iconst (pc := 20) (v := 0) dX12_soon_20 (by decide) ?_
    refine T_istore_n (pc := 21) (lv' := [(0, .ref 10), (1, .int p0), (2, .int (0 : Int32))]) dX12_soon_21 rfl (by decide) rfl ?_
    refine T_iconst (pc := 22) (v := 0) dX12_soon_22 (by decide) ?_
    refine T_istore_n (pc := 23) (lv' := [(0, .ref 10), (1, .int p0), (2, .int (0 : Int32)), (3, .int (0 : Int32))]) dX12_soon_23 rfl (by decide) rfl ?_
    refine T_pick (lv' := [(0, .ref 10), (2, .int (0 : Int32)), (3, .int (0 : Int32))]) [0, 2, 3] rfl ?_
    exact fX12_soon_P24_T s3 (0 : Int32) (0 : Int32)
  · refine T_iconst (pc := 13) (v := -1) dX12_soon_13 (by decide) ?_
    exact T_ireturn (pc := 14) rfl dX12_soon_14 rfl
