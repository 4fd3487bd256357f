/-! methods X12_one .. X12_worth: by program (wip/gen) -/
set_option maxRecDepth 100000 in
set_option maxHeartbeats 4000000 in
theorem fX12_one_L77_T (v2 : Int32) (v3 : Int32) (v4 : Int32) (v5 : Int32) (σ : St) {k1 : Int32 → Option (Int32 × St)} {kb : Int32 → Option (Int32 × St)} (hk1 : ∀ (w6 : Int32), T kX12_one cSi σ 106 [(0, .ref 10), (2, .int v2), (3, .int v3), (4, .int v4), (5, .int v5), (6, .int w6)] [] (k1 w6)) (hkb : ∀ (w6 : Int32), T kX12_one cSi σ 77 [(0, .ref 10), (2, .int v2), (3, .int v3), (4, .int v4), (5, .int v5), (6, .int w6)] [] (kb w6)) (v6 : Int32) : T kX12_one cSi σ 77 [(0, .ref 10), (2, .int v2), (3, .int v3), (4, .int v4), (5, .int v5), (6, .int v6)] [] (fX12_one_L77 v2 v3 v4 v5 k1 kb σ v6) := by
  unfold fX12_one_L77
  refine T_aload_n (pc := 77) 0 dX12_one_77 rfl rfl ?_
  refine T_iload (pc := 78) 4 dX12_one_78 rfl ?_
  refine T_iload_n (pc := 80) 1 dX12_one_80 rfl rfl ?_
  refine T_iload (pc := 81) 5 dX12_one_81 rfl ?_
  refine T_callPz (pc := 83) (rest := []) (Rn_V (pc := 83) (as := [.int v5, .int v2, .int v6]) (rest := []) (ctX12_isOfOthers σ v5 v2 v6) rfl rfl mv_X12_isOfOthers hw1919 rfl ⟨Nat.le_of_ble_eq_true rfl, Nat.le_of_ble_eq_true rfl⟩ (Nat.le_of_ble_eq_true rfl) dX12_one_83 rfl) rfl (fun x7 => ?_)
  refine T_if_eq (pc := 86) 100 dX12_one_86 (by decide) (fun _ => ?_) (fun _ => ?_)
  · refine T_iinc (pc := 100) (y := 1) (lv' := [(0, .ref 10), (2, .int v2), (3, .int v3), (4, .int v4), (5, .int v5), (6, .int (v6 + (1 : Int32)))]) 5 dX12_one_100 (by decide) rfl (Nat.le_of_ble_eq_true rfl) rfl ?_
    refine T_goto (pc := 103) 77 dX12_one_103 (by decide) ?_
    exact hkb (v6 + (1 : Int32))
  · refine T_aload_n (pc := 89) 0 dX12_one_89 rfl rfl ?_
    refine T_iload (pc := 90) 4 dX12_one_90 rfl ?_
    refine T_iload (pc := 92) 5 dX12_one_92 rfl ?_
    refine T_callPz (pc := 94) (rest := []) (Rn_V (pc := 94) (as := [.int v5, .int v6]) (rest := []) (ctX12_endsIt σ v5 v6) rfl rfl mv_X12_endsIt hw1865 rfl ⟨Nat.le_of_ble_eq_true rfl, Nat.le_of_ble_eq_true rfl⟩ (Nat.le_of_ble_eq_true rfl) dX12_one_94 rfl) rfl (fun x8 => ?_)
    refine T_if_ne (pc := 97) 106 dX12_one_97 (by decide) (fun _ => ?_) (fun _ => ?_)
    · exact hk1 v6
    · refine T_iinc (pc := 100) (y := 1) (lv' := [(0, .ref 10), (2, .int v2), (3, .int v3), (4, .int v4), (5, .int v5), (6, .int (v6 + (1 : Int32)))]) 5 dX12_one_100 (by decide) rfl (Nat.le_of_ble_eq_true rfl) rfl ?_
      refine T_goto (pc := 103) 77 dX12_one_103 (by decide) ?_
      exact hkb (v6 + (1 : Int32))
set_option maxRecDepth 100000 in
set_option maxHeartbeats 4000000 in
theorem fX12_one_P77_T (v2 : Int32) (v3 : Int32) (v4 : Int32) (v5 : Int32) (σ : St) {k1 : Int32 → Option (Int32 × St)} (hk1 : ∀ (w6 : Int32), T kX12_one cSi σ 106 [(0, .ref 10), (2, .int v2), (3, .int v3), (4, .int v4), (5, .int v5), (6, .int w6)] [] (k1 w6)) (v6 : Int32) : T kX12_one cSi σ 77 [(0, .ref 10), (2, .int v2), (3, .int v3), (4, .int v4), (5, .int v5), (6, .int v6)] [] (fX12_one_P77 v2 v3 v4 v5 k1 σ v6) :=
  it_T (S := (fun _ : Int32 => σ)) (lv := fun t : Int32 => [(0, .ref 10), (2, .int v2), (3, .int v3), (4, .int v4), (5, .int v5), (6, .int t)]) (st := fun _ => []) (fun kb hkb t => fX12_one_L77_T v2 v3 v4 v5 (hk1 := hk1) (hkb := fun v6 => hkb v6) σ t) FU v6
set_option maxRecDepth 100000 in
set_option maxHeartbeats 4000000 in
theorem fX12_one_L43_T (v2 : Int32) (v4 : Int32) (σ : St) {k1 : St → Int32 → Option (Int32 × St)} {kb : St → Int32 → Int32 → Option (Int32 × St)} (hk1 : ∀ (σ' : St) (w3 : Int32), T kX12_one cSi σ' 154 [(0, .ref 10), (2, .int v2), (3, .int w3), (4, .int v4)] [] (k1 σ' w3)) (hkb : ∀ (σ' : St) (w3 : Int32) (w5 : Int32), T kX12_one cSi σ' 43 [(0, .ref 10), (2, .int v2), (3, .int w3), (4, .int v4), (5, .int w5)] [] (kb σ' w3 w5)) (v3 : Int32) (v5 : Int32) : T kX12_one cSi σ 43 [(0, .ref 10), (2, .int v2), (3, .int v3), (4, .int v4), (5, .int v5)] [] (fX12_one_L43 v2 v4 k1 kb σ v3 v5) := by
  unfold fX12_one_L43
  refine T_iload (pc := 43) 4 dX12_one_43 rfl ?_
  refine T_sipush (pc := 45) (v := 128) dX12_one_45 (by decide) ?_
  refine T_icmp_ge (pc := 48) 154 dX12_one_48 (by decide) (fun _ => ?_) (fun _ => ?_)
  · refine T_pick (lv' := [(0, .ref 10), (2, .int v2), (3, .int v3), (4, .int v4)]) [0, 1, 2, 3] rfl ?_
    exact hk1 σ v3
  · refine T_aload_n (pc := 51) 0 dX12_one_51 rfl rfl ?_
    refine T_iload (pc := 52) 4 dX12_one_52 rfl ?_
    refine T_callPz (pc := 54) (rest := []) (Rn_V (pc := 54) (as := [.int v5]) (rest := []) (ctX12_isSpeech σ v5) rfl rfl mv_X12_isSpeech hw1849 rfl ⟨Nat.le_of_ble_eq_true rfl, Nat.le_of_ble_eq_true rfl⟩ (Nat.le_of_ble_eq_true rfl) dX12_one_54 rfl) rfl (fun x5 => ?_)
    refine T_if_eq (pc := 57) 148 dX12_one_57 (by decide) (fun _ => ?_) (fun _ => ?_)
    · refine T_iinc (pc := 148) (y := 1) (lv' := [(0, .ref 10), (2, .int v2), (3, .int v3), (4, .int v4), (5, .int (v5 + (1 : Int32)))]) 4 dX12_one_148 (by decide) rfl (Nat.le_of_ble_eq_true rfl) rfl ?_
      refine T_goto (pc := 151) 43 dX12_one_151 (by decide) ?_
      exact hkb σ v3 (v5 + (1 : Int32))
    · refine T_aload_n (pc := 60) 0 dX12_one_60 rfl rfl ?_
      refine T_iload (pc := 61) 4 dX12_one_61 rfl ?_
      refine T_iload_n (pc := 63) 1 dX12_one_63 rfl rfl ?_
      refine T_callSi (pc := 64) (rest := []) (Rn_V (pc := 64) (as := [.int v5, .int v2]) (rest := []) (ctX12_kindOf σ v5 v2) rfl rfl mv_X12_kindOf hw1915 rfl ⟨Nat.le_of_ble_eq_true rfl, Nat.le_of_ble_eq_true rfl⟩ (Nat.le_of_ble_eq_true rfl) dX12_one_64 rfl) rfl (fun r6 => ?_)
      refine T_iconst (pc := 67) (v := 1) dX12_one_67 (by decide) ?_
      refine T_icmp_eq (pc := 68) 74 dX12_one_68 (by decide) (fun _ => ?_) (fun _ => ?_)
      · refine T_iconst (pc := 74) (v := 0) dX12_one_74 (by decide) ?_
        refine T_istore (pc := 75) (lv' := [(0, .ref 10), (2, .int v2), (3, .int v3), (4, .int v4), (5, .int v5), (6, .int (0 : Int32))]) dX12_one_75 (Nat.le_of_ble_eq_true rfl) rfl ?_
        refine fX12_one_P77_T v2 v3 v4 v5 (hk1 := fun x9 => ?_) r6.2 (0 : Int32)
        · refine T_iload_n (pc := 106) 2 dX12_one_106 rfl rfl ?_
          refine T_iload (pc := 107) 4 dX12_one_107 rfl ?_
          refine T_bipush (pc := 109) (v := 16) dX12_one_109 (by decide) ?_
          refine T_idiv (pc := 111) dX12_one_111 ?_
          refine T_callPz (pc := 112) (rest := []) (Rn_S (pc := 112) (as := [.int v3, .int (v5 / (16 : Int32))]) (rest := []) (ctX12_has r6.2 v3 (v5 / (16 : Int32))) ms_X12_has hw1732 rfl ⟨Nat.le_of_ble_eq_true rfl, Nat.le_of_ble_eq_true rfl⟩ (Nat.le_of_ble_eq_true rfl) dX12_one_112 rfl) rfl (fun x10 => ?_)
          refine T_if_ne (pc := 115) 130 dX12_one_115 (by decide) (fun _ => ?_) (fun _ => ?_)
          · refine T_iload_n (pc := 130) 2 dX12_one_130 rfl rfl ?_
            refine T_iconst (pc := 131) (v := 1) dX12_one_131 (by decide) ?_
            refine T_iload (pc := 132) 4 dX12_one_132 rfl ?_
            refine T_bipush (pc := 134) (v := 16) dX12_one_134 (by decide) ?_
            refine T_idiv (pc := 136) dX12_one_136 ?_
            refine T_ishl (pc := 137) dX12_one_137 ?_
            refine T_iconst (pc := 138) (v := 1) dX12_one_138 (by decide) ?_
            refine T_iload (pc := 139) 5 dX12_one_139 rfl ?_
            refine T_bipush (pc := 141) (v := 16) dX12_one_141 (by decide) ?_
            refine T_idiv (pc := 143) dX12_one_143 ?_
            refine T_ishl (pc := 144) dX12_one_144 ?_
            refine T_ior (pc := 145) dX12_one_145 ?_
            refine T_ior (pc := 146) dX12_one_146 ?_
            refine T_letI (fun x11 => ?_)
            refine T_istore_n (pc := 147) (lv' := [(0, .ref 10), (2, .int v2), (3, .int x11), (4, .int v4), (5, .int v5), (6, .int x9)]) dX12_one_147 rfl (Nat.le_of_ble_eq_true rfl) rfl ?_
            refine T_iinc (pc := 148) (y := 1) (lv' := [(0, .ref 10), (2, .int v2), (3, .int x11), (4, .int v4), (5, .int (v5 + (1 : Int32))), (6, .int x9)]) 4 dX12_one_148 (by decide) rfl (Nat.le_of_ble_eq_true rfl) rfl ?_
            refine T_goto (pc := 151) 43 dX12_one_151 (by decide) ?_
            refine T_pick (lv' := [(0, .ref 10), (2, .int v2), (3, .int x11), (4, .int v4), (5, .int (v5 + (1 : Int32)))]) [0, 1, 2, 3, 4] rfl ?_
            exact hkb r6.2 x11 (v5 + (1 : Int32))
          · refine T_iload_n (pc := 118) 2 dX12_one_118 rfl rfl ?_
            refine T_iload (pc := 119) 5 dX12_one_119 rfl ?_
            refine T_bipush (pc := 121) (v := 16) dX12_one_121 (by decide) ?_
            refine T_idiv (pc := 123) dX12_one_123 ?_
            refine T_callPz (pc := 124) (rest := []) (Rn_S (pc := 124) (as := [.int v3, .int (x9 / (16 : Int32))]) (rest := []) (ctX12_has r6.2 v3 (x9 / (16 : Int32))) ms_X12_has hw1732 rfl ⟨Nat.le_of_ble_eq_true rfl, Nat.le_of_ble_eq_true rfl⟩ (Nat.le_of_ble_eq_true rfl) dX12_one_124 rfl) rfl (fun x12 => ?_)
            refine T_if_eq (pc := 127) 148 dX12_one_127 (by decide) (fun _ => ?_) (fun _ => ?_)
            · refine T_iinc (pc := 148) (y := 1) (lv' := [(0, .ref 10), (2, .int v2), (3, .int v3), (4, .int v4), (5, .int (v5 + (1 : Int32))), (6, .int x9)]) 4 dX12_one_148 (by decide) rfl (Nat.le_of_ble_eq_true rfl) rfl ?_
              refine T_goto (pc := 151) 43 dX12_one_151 (by decide) ?_
              refine T_pick (lv' := [(0, .ref 10), (2, .int v2), (3, .int v3), (4, .int v4), (5, .int (v5 + (1 : Int32)))]) [0, 1, 2, 3, 4] rfl ?_
              exact hkb r6.2 v3 (v5 + (1 : Int32))
            · refine T_iload_n (pc := 130) 2 dX12_one_130 rfl rfl ?_
              refine T_iconst (pc := 131) (v := 1) dX12_one_131 (by decide) ?_
              refine T_iload (pc := 132) 4 dX12_one_132 rfl ?_
              refine T_bipush (pc := 134) (v := 16) dX12_one_134 (by decide) ?_
              refine T_idiv (pc := 136) dX12_one_136 ?_
              refine T_ishl (pc := 137) dX12_one_137 ?_
              refine T_iconst (pc := 138) (v := 1) dX12_one_138 (by decide) ?_
              refine T_iload (pc := 139) 5 dX12_one_139 rfl ?_
              refine T_bipush (pc := 141) (v := 16) dX12_one_141 (by decide) ?_
              refine T_idiv (pc := 143) dX12_one_143 ?_
              refine T_ishl (pc := 144) dX12_one_144 ?_
              refine T_ior (pc := 145) dX12_one_145 ?_
              refine T_ior (pc := 146) dX12_one_146 ?_
              refine T_letI (fun x13 => ?_)
              refine T_istore_n (pc := 147) (lv' := [(0, .ref 10), (2, .int v2), (3, .int x13), (4, .int v4), (5, .int v5), (6, .int x9)]) dX12_one_147 rfl (Nat.le_of_ble_eq_true rfl) rfl ?_
              refine T_iinc (pc := 148) (y := 1) (lv' := [(0, .ref 10), (2, .int v2), (3, .int x13), (4, .int v4), (5, .int (v5 + (1 : Int32))), (6, .int x9)]) 4 dX12_one_148 (by decide) rfl (Nat.le_of_ble_eq_true rfl) rfl ?_
              refine T_goto (pc := 151) 43 dX12_one_151 (by decide) ?_
              refine T_pick (lv' := [(0, .ref 10), (2, .int v2), (3, .int x13), (4, .int v4), (5, .int (v5 + (1 : Int32)))]) [0, 1, 2, 3, 4] rfl ?_
              exact hkb r6.2 x13 (v5 + (1 : Int32))
      · refine T_goto (pc := 71) 148 dX12_one_71 (by decide) ?_
        refine T_iinc (pc := 148) (y := 1) (lv' := [(0, .ref 10), (2, .int v2), (3, .int v3), (4, .int v4), (5, .int (v5 + (1 : Int32)))]) 4 dX12_one_148 (by decide) rfl (Nat.le_of_ble_eq_true rfl) rfl ?_
        refine T_goto (pc := 151) 43 dX12_one_151 (by decide) ?_
        exact hkb r6.2 v3 (v5 + (1 : Int32))
set_option maxRecDepth 100000 in
set_option maxHeartbeats 4000000 in
theorem fX12_one_P43_T (v2 : Int32) (v4 : Int32) (σ : St) {k1 : St → Int32 → Option (Int32 × St)} (hk1 : ∀ (σ' : St) (w3 : Int32), T kX12_one cSi σ' 154 [(0, .ref 10), (2, .int v2), (3, .int w3), (4, .int v4)] [] (k1 σ' w3)) (v3 : Int32) (v5 : Int32) : T kX12_one cSi σ 43 [(0, .ref 10), (2, .int v2), (3, .int v3), (4, .int v4), (5, .int v5)] [] (fX12_one_P43 v2 v4 k1 σ v3 v5) :=
  it_T (S := (fun t : St × Int32 × Int32 => t.1)) (lv := fun t : St × Int32 × Int32 => [(0, .ref 10), (2, .int v2), (3, .int t.2.1), (4, .int v4), (5, .int t.2.2)]) (st := fun _ => []) (fun kb hkb t => fX12_one_L43_T v2 v4 (hk1 := hk1) (hkb := fun σ v3 v5 => hkb (σ, v3, v5)) t.1 t.2.1 t.2.2) FU (σ, v3, v5)
set_option maxRecDepth 100000 in
set_option maxHeartbeats 4000000 in
theorem fX12_one_L31_T (v2 : Int32) (σ : St) {kb : St → Int32 → Int32 → Option (Int32 × St)} (hkb : ∀ (σ' : St) (w3 : Int32) (w4 : Int32), T kX12_one cSi σ' 31 [(0, .ref 10), (2, .int v2), (3, .int w3), (4, .int w4)] [] (kb σ' w3 w4)) (v3 : Int32) (v4 : Int32) : T kX12_one cSi σ 31 [(0, .ref 10), (2, .int v2), (3, .int v3), (4, .int v4)] [] (fX12_one_L31 v2 kb σ v3 v4) := by
  unfold fX12_one_L31
  refine T_iload (pc := 31) 3 dX12_one_31 rfl ?_
  refine T_aload_n (pc := 33) 0 dX12_one_33 rfl rfl ?_
  refine T_getI (pc := 34) fd_10_8 hw1511 dX12_one_34 ?_
  refine T_icmp_ge (pc := 37) 160 dX12_one_37 (by decide) (fun _ => ?_) (fun _ => ?_)
  · refine T_iload_n (pc := 160) 2 dX12_one_160 rfl rfl ?_
    exact T_ireturn (pc := 161) rfl dX12_one_161 rfl
  · refine T_iconst (pc := 40) (v := 0) dX12_one_40 (by decide) ?_
    refine T_istore (pc := 41) (lv' := [(0, .ref 10), (2, .int v2), (3, .int v3), (4, .int v4), (5, .int (0 : Int32))]) dX12_one_41 (Nat.le_of_ble_eq_true rfl) rfl ?_
    refine fX12_one_P43_T v2 v4 (hk1 := fun s14 x15 => ?_) σ v3 (0 : Int32)
    · refine T_iinc (pc := 154) (y := 1) (lv' := [(0, .ref 10), (2, .int v2), (3, .int x15), (4, .int (v4 + (1 : Int32)))]) 3 dX12_one_154 (by decide) rfl (Nat.le_of_ble_eq_true rfl) rfl ?_
      refine T_goto (pc := 157) 31 dX12_one_157 (by decide) ?_
      exact hkb s14 x15 (v4 + (1 : Int32))
set_option maxRecDepth 100000 in
set_option maxHeartbeats 4000000 in
theorem fX12_one_P31_T (v2 : Int32) (σ : St) (v3 : Int32) (v4 : Int32) : T kX12_one cSi σ 31 [(0, .ref 10), (2, .int v2), (3, .int v3), (4, .int v4)] [] (fX12_one_P31 v2 σ v3 v4) :=
  it_T (S := (fun t : St × Int32 × Int32 => t.1)) (lv := fun t : St × Int32 × Int32 => [(0, .ref 10), (2, .int v2), (3, .int t.2.1), (4, .int t.2.2)]) (st := fun _ => []) (fun kb hkb t => fX12_one_L31_T v2 (hkb := fun σ v3 v4 => hkb (σ, v3, v4)) t.1 t.2.1 t.2.2) FU (σ, v3, v4)
set_option maxRecDepth 100000 in
set_option maxHeartbeats 4000000 in
theorem ctX12_one (σ : St) (p0 : Int32) : Ct yX12_one kX12_one [.ref 10, .int p0] σ cSi (fX12_one σ p0) := by
  refine Ct.of (by decide +kernel) rfl rfl (Nat.le_of_ble_eq_true rfl) ?_
  unfold fX12_one
  show T _ _ _ 0 [(0, .ref 10), (1, .int p0)] [] _
  refine T_aload_n (pc := 0) 0 dX12_one_0 rfl rfl ?_
  refine T_iconst (pc := 1) (v := 0) dX12_one_1 (by decide) ?_
  refine T_putI (pc := 2) fd_10_0 hw1503 dX12_one_2 ?_
  refine T_letS (fun s1 => ?_)
  refine T_aload_n (pc := 5) 0 dX12_one_5 rfl rfl ?_
  refine T_iload_n (pc := 6) 1 dX12_one_6 rfl rfl ?_
  refine T_callPz (pc := 7) (rest := []) (Rn_V (pc := 7) (as := [.int p0]) (rest := []) (ctX12_isRoll s1 p0) rfl rfl mv_X12_isRoll hw1853 rfl ⟨Nat.le_of_ble_eq_true rfl, Nat.le_of_ble_eq_true rfl⟩ (Nat.le_of_ble_eq_true rfl) dX12_one_7 rfl) rfl (fun x2 => ?_)
  refine T_if_ne (pc := 10) 15 dX12_one_10 (by decide) (fun _ => ?_) (fun _ => ?_)
  · refine T_iconst (pc := 15) (v := 1) dX12_one_15 (by decide) ?_
    refine T_aload_n (pc := 16) 0 dX12_one_16 rfl rfl ?_
    refine T_getI (pc := 17) fd_10_8 hw1511 dX12_one_17 ?_
    refine T_ishl (pc := 20) dX12_one_20 ?_
    refine T_iconst (pc := 21) (v := 1) dX12_one_21 (by decide) ?_
    refine T_isub (pc := 22) dX12_one_22 ?_
    refine T_letI (fun x3 => ?_)
    refine T_istore_n (pc := 23) (lv' := [(0, .ref 10), (1, .int p0), (2, .int x3)]) dX12_one_23 rfl (Nat.le_of_ble_eq_true rfl) rfl ?_
    refine T_iconst (pc := 24) (v := 1) dX12_one_24 (by decide) ?_
    refine T_iload_n (pc := 25) 1 dX12_one_25 rfl rfl ?_
    refine T_ishl (pc := 26) dX12_one_26 ?_
    refine T_letI (fun x4 => ?_)
    refine T_istore_n (pc := 27) (lv' := [(0, .ref 10), (1, .int p0), (2, .int x3), (3, .int x4)]) dX12_one_27 rfl (Nat.le_of_ble_eq_true rfl) rfl ?_
    refine T_iconst (pc := 28) (v := 0) dX12_one_28 (by decide) ?_
    refine T_istore (pc := 29) (lv' := [(0, .ref 10), (1, .int p0), (2, .int x3), (3, .int x4), (4, .int (0 : Int32))]) dX12_one_29 (Nat.le_of_ble_eq_true rfl) rfl ?_
    refine T_pick (lv' := [(0, .ref 10), (2, .int x3), (3, .int x4), (4, .int (0 : Int32))]) [0, 2, 3, 4] rfl ?_
    exact fX12_one_P31_T x3 s1 x4 (0 : Int32)
  · refine T_iconst (pc := 13) (v := -1) dX12_one_13 (by decide) ?_
    exact T_ireturn (pc := 14) rfl dX12_one_14 rfl
set_option maxRecDepth 100000 in
set_option maxHeartbeats 4000000 in
theorem ctX12_orders (σ : St) (p0 : Int32) : Ct yX12_orders kX12_orders [.ref 10, .int p0] σ cSl (fX12_orders σ p0) := by
  refine Ct.of (by decide +kernel) rfl rfl (Nat.le_of_ble_eq_true rfl) ?_
  unfold fX12_orders
  show T _ _ _ 0 [(0, .ref 10), (1, .int p0)] [] _
  refine T_aload_n (pc := 0) 0 dX12_orders_0 rfl rfl ?_
  refine T_iconst (pc := 1) (v := 0) dX12_orders_1 (by decide) ?_
  refine T_putI (pc := 2) fd_10_0 hw1503 dX12_orders_2 ?_
  refine T_letS (fun s1 => ?_)
  refine T_aload_n (pc := 5) 0 dX12_orders_5 rfl rfl ?_
  refine T_iload_n (pc := 6) 1 dX12_orders_6 rfl rfl ?_
  refine T_callSz (pc := 7) (rest := []) (Rn_V (pc := 7) (as := [.int p0]) (rest := []) (ctX12_isSmall s1 p0) rfl rfl mv_X12_isSmall hw1939 rfl ⟨Nat.le_of_ble_eq_true rfl, Nat.le_of_ble_eq_true rfl⟩ (Nat.le_of_ble_eq_true rfl) dX12_orders_7 rfl) rfl (fun r2 => ?_)
  refine T_if_ne (pc := 10) 17 dX12_orders_10 (by decide) (fun _ => ?_) (fun _ => ?_)
  · refine T_aload_n (pc := 17) 0 dX12_orders_17 rfl rfl ?_
    refine T_callSv (pc := 18) (rest := []) (Rn_V (pc := 18) (as := []) (rest := []) (ctX12_layLeft r2.2) rfl rfl mv_X12_layLeft hw1947 rfl ⟨Nat.le_of_ble_eq_true rfl, Nat.le_of_ble_eq_true rfl⟩ (Nat.le_of_ble_eq_true rfl) dX12_orders_18 rfl) rfl (fun s3 => ?_)
    refine T_aload_n (pc := 21) 0 dX12_orders_21 rfl rfl ?_
    refine T_getA (pc := 22) fd_10_40 hw1543 dX12_orders_22 ?_
    refine T_iconst (pc := 25) (v := 0) dX12_orders_25 (by decide) ?_
    refine T_lald (pc := 26) rfl dX12_orders_26 (fun x4 => ?_)
    exact T_lreturn (pc := 27) rfl dX12_orders_27 rfl
  · refine T_ldc2 (pc := 13) hw1967 dX12_orders_13 ?_
    exact T_lreturn (pc := 16) rfl dX12_orders_16 rfl
set_option maxRecDepth 100000 in
set_option maxHeartbeats 4000000 in
theorem ctX12_play (σ : St) (p0 : Int32) : Ct yX12_play kX12_play [.ref 10, .int p0] σ cSi (fX12_play σ p0) := by
  refine Ct.of (by decide +kernel) rfl rfl (Nat.le_of_ble_eq_true rfl) ?_
  unfold fX12_play
  show T _ _ _ 0 [(0, .ref 10), (1, .int p0)] [] _
  refine T_aload_n (pc := 0) 0 dX12_play_0 rfl rfl ?_
  refine T_iconst (pc := 1) (v := 0) dX12_play_1 (by decide) ?_
  refine T_putI (pc := 2) fd_10_0 hw1503 dX12_play_2 ?_
  refine T_letS (fun s1 => ?_)
  refine T_iload_n (pc := 5) 1 dX12_play_5 rfl rfl ?_
  refine T_iconst (pc := 6) (v := -1) dX12_play_6 (by decide) ?_
  refine T_icmp_ne (pc := 7) 17 dX12_play_7 (by decide) (fun _ => ?_) (fun _ => ?_)
  · refine T_iload_n (pc := 17) 1 dX12_play_17 rfl rfl ?_
    refine T_iconst (pc := 18) (v := 0) dX12_play_18 (by decide) ?_
    refine T_aload_n (pc := 19) 0 dX12_play_19 rfl rfl ?_
    refine T_getI (pc := 20) fd_10_48 hw1551 dX12_play_20 ?_
    refine T_iconst (pc := 23) (v := 1) dX12_play_23 (by decide) ?_
    refine T_isub (pc := 24) dX12_play_24 ?_
    refine T_callPz (pc := 25) (rest := []) (Rn_S (pc := 25) (as := [.int p0, .int (0 : Int32), .int ((zI s1 48) - (1 : Int32))]) (rest := []) (ctX12_isIn s1 p0 (0 : Int32) ((zI s1 48) - (1 : Int32))) ms_X12_isIn hw1689 rfl ⟨Nat.le_of_ble_eq_true rfl, Nat.le_of_ble_eq_true rfl⟩ (Nat.le_of_ble_eq_true rfl) dX12_play_25 rfl) rfl (fun x2 => ?_)
    refine T_if_eq (pc := 28) 40 dX12_play_28 (by decide) (fun _ => ?_) (fun _ => ?_)
    · refine T_iconst (pc := 40) (v := -1) dX12_play_40 (by decide) ?_
      exact T_ireturn (pc := 41) rfl dX12_play_41 rfl
    · refine T_aload_n (pc := 31) 0 dX12_play_31 rfl rfl ?_
      refine T_getA (pc := 32) fd_10_44 hw1547 dX12_play_32 ?_
      refine T_iload_n (pc := 35) 1 dX12_play_35 rfl rfl ?_
      refine T_iald (pc := 36) rfl dX12_play_36 (fun x3 => ?_)
      refine T_goto (pc := 37) 41 dX12_play_37 (by decide) ?_
      exact T_ireturn (pc := 41) rfl dX12_play_41 rfl
  · refine T_aload_n (pc := 10) 0 dX12_play_10 rfl rfl ?_
    refine T_getI (pc := 11) fd_10_48 hw1551 dX12_play_11 ?_
    refine T_goto (pc := 14) 41 dX12_play_14 (by decide) ?_
    exact T_ireturn (pc := 41) rfl dX12_play_41 rfl
set_option maxRecDepth 100000 in
set_option maxHeartbeats 4000000 in
theorem ctX12_plot (σ : St) (p0 : Int32) (p1 : Int32) : Ct yX12_plot kX12_plot [.ref 10, .int p0, .int p1] σ cSi (fX12_plot σ p0 p1) := by
  refine Ct.of (by decide +kernel) rfl rfl (Nat.le_of_ble_eq_true rfl) ?_
  unfold fX12_plot
  show T _ _ _ 0 [(0, .ref 10), (1, .int p0), (2, .int p1)] [] _
  refine T_aload_n (pc := 0) 0 dX12_plot_0 rfl rfl ?_
  refine T_iconst (pc := 1) (v := 0) dX12_plot_1 (by decide) ?_
  refine T_putI (pc := 2) fd_10_0 hw1503 dX12_plot_2 ?_
  refine T_letS (fun s1 => ?_)
  refine T_aload_n (pc := 5) 0 dX12_plot_5 rfl rfl ?_
  refine T_iload_n (pc := 6) 1 dX12_plot_6 rfl rfl ?_
  refine T_callPz (pc := 7) (rest := []) (Rn_V (pc := 7) (as := [.int p0]) (rest := []) (ctX12_isPlot s1 p0) rfl rfl mv_X12_isPlot hw2056 rfl ⟨Nat.le_of_ble_eq_true rfl, Nat.le_of_ble_eq_true rfl⟩ (Nat.le_of_ble_eq_true rfl) dX12_plot_7 rfl) rfl (fun x2 => ?_)
  refine T_if_ne (pc := 10) 15 dX12_plot_10 (by decide) (fun _ => ?_) (fun _ => ?_)
  · refine T_iload_n (pc := 15) 2 dX12_plot_15 rfl rfl ?_
    refine T_iconst (pc := 16) (v := -1) dX12_plot_16 (by decide) ?_
    refine T_icmp_ne (pc := 17) 28 dX12_plot_17 (by decide) (fun _ => ?_) (fun _ => ?_)
    · refine T_iload_n (pc := 28) 2 dX12_plot_28 rfl rfl ?_
      refine T_iconst (pc := 29) (v := 0) dX12_plot_29 (by decide) ?_
      refine T_aload_n (pc := 30) 0 dX12_plot_30 rfl rfl ?_
      refine T_getA (pc := 31) fd_10_28 hw1531 dX12_plot_31 ?_
      refine T_iload_n (pc := 34) 1 dX12_plot_34 rfl rfl ?_
      refine T_iald (pc := 35) rfl dX12_plot_35 (fun x3 => ?_)
      refine T_iconst (pc := 36) (v := 1) dX12_plot_36 (by decide) ?_
      refine T_isub (pc := 37) dX12_plot_37 ?_
      refine T_callPz (pc := 38) (rest := []) (Rn_S (pc := 38) (as := [.int p1, .int (0 : Int32), .int (x3 - (1 : Int32))]) (rest := []) (ctX12_isIn s1 p1 (0 : Int32) (x3 - (1 : Int32))) ms_X12_isIn hw1689 rfl ⟨Nat.le_of_ble_eq_true rfl, Nat.le_of_ble_eq_true rfl⟩ (Nat.le_of_ble_eq_true rfl) dX12_plot_38 rfl) rfl (fun x4 => ?_)
      refine T_if_eq (pc := 41) 58 dX12_plot_41 (by decide) (fun _ => ?_) (fun _ => ?_)
      · refine T_iconst (pc := 58) (v := -1) dX12_plot_58 (by decide) ?_
        exact T_ireturn (pc := 59) rfl dX12_plot_59 rfl
      · refine T_aload_n (pc := 44) 0 dX12_plot_44 rfl rfl ?_
        refine T_getA (pc := 45) fd_10_29 hw1532 dX12_plot_45 ?_
        refine T_bipush (pc := 48) (v := 20) dX12_plot_48 (by decide) ?_
        refine T_iload_n (pc := 50) 1 dX12_plot_50 rfl rfl ?_
        refine T_imul (pc := 51) dX12_plot_51 ?_
        refine T_iload_n (pc := 52) 2 dX12_plot_52 rfl rfl ?_
        refine T_iadd (pc := 53) dX12_plot_53 ?_
        refine T_iald (pc := 54) rfl dX12_plot_54 (fun x5 => ?_)
        refine T_goto (pc := 55) 59 dX12_plot_55 (by decide) ?_
        exact T_ireturn (pc := 59) rfl dX12_plot_59 rfl
    · refine T_aload_n (pc := 20) 0 dX12_plot_20 rfl rfl ?_
      refine T_iload_n (pc := 21) 1 dX12_plot_21 rfl rfl ?_
      refine T_callPi (pc := 22) (rest := []) (Rn_V (pc := 22) (as := [.int p0]) (rest := []) (ctX12_partsOf s1 p0) rfl rfl mv_X12_partsOf hw2060 rfl ⟨Nat.le_of_ble_eq_true rfl, Nat.le_of_ble_eq_true rfl⟩ (Nat.le_of_ble_eq_true rfl) dX12_plot_22 rfl) rfl (fun x6 => ?_)
      refine T_goto (pc := 25) 59 dX12_plot_25 (by decide) ?_
      exact T_ireturn (pc := 59) rfl dX12_plot_59 rfl
  · refine T_iconst (pc := 13) (v := -1) dX12_plot_13 (by decide) ?_
    exact T_ireturn (pc := 14) rfl dX12_plot_14 rfl
set_option maxRecDepth 100000 in
set_option maxHeartbeats 4000000 in
theorem ctX12_rehearse (σ : St) (p0 : Int32) (p1 : Int32) : Ct yX12_rehearse kX12_rehearse [.ref 10, .int p0, .int p1] σ cSi (fX12_rehearse σ p0 p1) := by
  refine Ct.of (by decide +kernel) rfl rfl (Nat.le_of_ble_eq_true rfl) ?_
  unfold fX12_rehearse
  show T _ _ _ 0 [(0, .ref 10), (1, .int p0), (2, .int p1)] [] _
  refine T_aload_n (pc := 0) 0 dX12_rehearse_0 rfl rfl ?_
  refine T_iconst (pc := 1) (v := 0) dX12_rehearse_1 (by decide) ?_
  refine T_putI (pc := 2) fd_10_0 hw1503 dX12_rehearse_2 ?_
  refine T_letS (fun s1 => ?_)
  refine T_aload_n (pc := 5) 0 dX12_rehearse_5 rfl rfl ?_
  refine T_iload_n (pc := 6) 1 dX12_rehearse_6 rfl rfl ?_
  refine T_callPz (pc := 7) (rest := []) (Rn_V (pc := 7) (as := [.int p0]) (rest := []) (ctX12_areRolls s1 p0) rfl rfl mv_X12_areRolls hw1911 rfl ⟨Nat.le_of_ble_eq_true rfl, Nat.le_of_ble_eq_true rfl⟩ (Nat.le_of_ble_eq_true rfl) dX12_rehearse_7 rfl) rfl (fun x2 => ?_)
  refine T_if_ne (pc := 10) 15 dX12_rehearse_10 (by decide) (fun _ => ?_) (fun _ => ?_)
  · refine T_aload_n (pc := 15) 0 dX12_rehearse_15 rfl rfl ?_
    refine T_iload_n (pc := 16) 1 dX12_rehearse_16 rfl rfl ?_
    refine T_callSv (pc := 17) (rest := []) (Rn_V (pc := 17) (as := [.int p0]) (rest := []) (ctX12_goRehearsal s1 p0) rfl rfl mv_X12_goRehearsal hw2024 rfl ⟨Nat.le_of_ble_eq_true rfl, Nat.le_of_ble_eq_true rfl⟩ (Nat.le_of_ble_eq_true rfl) dX12_rehearse_17 rfl) rfl (fun s3 => ?_)
    refine T_iload_n (pc := 20) 2 dX12_rehearse_20 rfl rfl ?_
    refine T_iconst (pc := 21) (v := -1) dX12_rehearse_21 (by decide) ?_
    refine T_icmp_ne (pc := 22) 32 dX12_rehearse_22 (by decide) (fun _ => ?_) (fun _ => ?_)
    · refine T_iload_n (pc := 32) 2 dX12_rehearse_32 rfl rfl ?_
      refine T_iconst (pc := 33) (v := 0) dX12_rehearse_33 (by decide) ?_
      refine T_aload_n (pc := 34) 0 dX12_rehearse_34 rfl rfl ?_
      refine T_getI (pc := 35) fd_10_49 hw1552 dX12_rehearse_35 ?_
      refine T_iconst (pc := 38) (v := 1) dX12_rehearse_38 (by decide) ?_
      refine T_isub (pc := 39) dX12_rehearse_39 ?_
      refine T_callPz (pc := 40) (rest := []) (Rn_S (pc := 40) (as := [.int p1, .int (0 : Int32), .int ((zI s3 49) - (1 : Int32))]) (rest := []) (ctX12_isIn s3 p1 (0 : Int32) ((zI s3 49) - (1 : Int32))) ms_X12_isIn hw1689 rfl ⟨Nat.le_of_ble_eq_true rfl, Nat.le_of_ble_eq_true rfl⟩ (Nat.le_of_ble_eq_true rfl) dX12_rehearse_40 rfl) rfl (fun x4 => ?_)
      refine T_if_eq (pc := 43) 55 dX12_rehearse_43 (by decide) (fun _ => ?_) (fun _ => ?_)
      · refine T_iconst (pc := 55) (v := -1) dX12_rehearse_55 (by decide) ?_
        exact T_ireturn (pc := 56) rfl dX12_rehearse_56 rfl
      · refine T_aload_n (pc := 46) 0 dX12_rehearse_46 rfl rfl ?_
        refine T_getA (pc := 47) fd_10_45 hw1548 dX12_rehearse_47 ?_
        refine T_iload_n (pc := 50) 2 dX12_rehearse_50 rfl rfl ?_
        refine T_iald (pc := 51) rfl dX12_rehearse_51 (fun x5 => ?_)
        refine T_goto (pc := 52) 56 dX12_rehearse_52 (by decide) ?_
        exact T_ireturn (pc := 56) rfl dX12_rehearse_56 rfl
    · refine T_aload_n (pc := 25) 0 dX12_rehearse_25 rfl rfl ?_
      refine T_getI (pc := 26) fd_10_49 hw1552 dX12_rehearse_26 ?_
      refine T_goto (pc := 29) 56 dX12_rehearse_29 (by decide) ?_
      exact T_ireturn (pc := 56) rfl dX12_rehearse_56 rfl
  · refine T_iconst (pc := 13) (v := -1) dX12_rehearse_13 (by decide) ?_
    exact T_ireturn (pc := 14) rfl dX12_rehearse_14 rfl
set_option maxRecDepth 100000 in
set_option maxHeartbeats 4000000 in
theorem ctX12_settles (σ : St) (p0 : Int32) (p1 : Int32) : Ct yX12_settles kX12_settles [.ref 10, .int p0, .int p1] σ cSi (fX12_settles σ p0 p1) := by
  refine Ct.of (by decide +kernel) rfl rfl (Nat.le_of_ble_eq_true rfl) ?_
  unfold fX12_settles
  show T _ _ _ 0 [(0, .ref 10), (1, .int p0), (2, .int p1)] [] _
  refine T_aload_n (pc := 0) 0 dX12_settles_0 rfl rfl ?_
  refine T_iconst (pc := 1) (v := 0) dX12_settles_1 (by decide) ?_
  refine T_putI (pc := 2) fd_10_0 hw1503 dX12_settles_2 ?_
  refine T_letS (fun s1 => ?_)
  refine T_aload_n (pc := 5) 0 dX12_settles_5 rfl rfl ?_
  refine T_iload_n (pc := 6) 1 dX12_settles_6 rfl rfl ?_
  refine T_callPz (pc := 7) (rest := []) (Rn_V (pc := 7) (as := [.int p0]) (rest := []) (ctX12_isRoll s1 p0) rfl rfl mv_X12_isRoll hw1853 rfl ⟨Nat.le_of_ble_eq_true rfl, Nat.le_of_ble_eq_true rfl⟩ (Nat.le_of_ble_eq_true rfl) dX12_settles_7 rfl) rfl (fun x2 => ?_)
  refine T_if_eq (pc := 10) 38 dX12_settles_10 (by decide) (fun _ => ?_) (fun _ => ?_)
  · refine T_iconst (pc := 38) (v := -1) dX12_settles_38 (by decide) ?_
    exact T_ireturn (pc := 39) rfl dX12_settles_39 rfl
  · refine T_aload_n (pc := 13) 0 dX12_settles_13 rfl rfl ?_
    refine T_iload_n (pc := 14) 2 dX12_settles_14 rfl rfl ?_
    refine T_callPz (pc := 15) (rest := []) (Rn_V (pc := 15) (as := [.int p1]) (rest := []) (ctX12_areRolls s1 p1) rfl rfl mv_X12_areRolls hw1911 rfl ⟨Nat.le_of_ble_eq_true rfl, Nat.le_of_ble_eq_true rfl⟩ (Nat.le_of_ble_eq_true rfl) dX12_settles_15 rfl) rfl (fun x3 => ?_)
    refine T_if_eq (pc := 18) 38 dX12_settles_18 (by decide) (fun _ => ?_) (fun _ => ?_)
    · refine T_iconst (pc := 38) (v := -1) dX12_settles_38 (by decide) ?_
      exact T_ireturn (pc := 39) rfl dX12_settles_39 rfl
    · refine T_iload_n (pc := 21) 2 dX12_settles_21 rfl rfl ?_
      refine T_iload_n (pc := 22) 1 dX12_settles_22 rfl rfl ?_
      refine T_callPz (pc := 23) (rest := []) (Rn_S (pc := 23) (as := [.int p1, .int p0]) (rest := []) (ctX12_has s1 p1 p0) ms_X12_has hw1732 rfl ⟨Nat.le_of_ble_eq_true rfl, Nat.le_of_ble_eq_true rfl⟩ (Nat.le_of_ble_eq_true rfl) dX12_settles_23 rfl) rfl (fun x4 => ?_)
      refine T_if_ne (pc := 26) 38 dX12_settles_26 (by decide) (fun _ => ?_) (fun _ => ?_)
      · refine T_iconst (pc := 38) (v := -1) dX12_settles_38 (by decide) ?_
        exact T_ireturn (pc := 39) rfl dX12_settles_39 rfl
      · refine T_aload_n (pc := 29) 0 dX12_settles_29 rfl rfl ?_
        refine T_iload_n (pc := 30) 1 dX12_settles_30 rfl rfl ?_
        refine T_iload_n (pc := 31) 2 dX12_settles_31 rfl rfl ?_
        refine T_callSi (pc := 32) (rest := []) (Rn_V (pc := 32) (as := [.int p0, .int p1]) (rest := []) (ctX12_settlesOf s1 p0 p1) rfl rfl mv_X12_settlesOf hw1996 rfl ⟨Nat.le_of_ble_eq_true rfl, Nat.le_of_ble_eq_true rfl⟩ (Nat.le_of_ble_eq_true rfl) dX12_settles_32 rfl) rfl (fun r5 => ?_)
        refine T_goto (pc := 35) 39 dX12_settles_35 (by decide) ?_
        exact T_ireturn (pc := 39) rfl dX12_settles_39 rfl
set_option maxRecDepth 100000 in
set_option maxHeartbeats 4000000 in
theorem fX12_soon_L24_T (σ : St) {kb : Int32 → Int32 → Option (Int32 × St)} (hkb : ∀ (w2 : Int32) (w3 : Int32), T kX12_soon cSi σ 24 [(0, .ref 10), (2, .int w2), (3, .int w3)] [] (kb w2 w3)) (v2 : Int32) (v3 : Int32) : T kX12_soon cSi σ 24 [(0, .ref 10), (2, .int v2), (3, .int v3)] [] (fX12_soon_L24 kb σ v2 v3) := by
  unfold fX12_soon_L24
  refine T_iload_n (pc := 24) 2 dX12_soon_24 rfl rfl ?_
  refine T_aload_n (pc := 25) 0 dX12_soon_25 rfl rfl ?_
  refine T_getI (pc := 26) fd_10_48 hw1551 dX12_soon_26 ?_
  refine T_icmp_ge (pc := 29) 69 dX12_soon_29 (by decide) (fun _ => ?_) (fun _ => ?_)
  · refine T_iload_n (pc := 69) 1 dX12_soon_69 rfl rfl ?_
    exact T_ireturn (pc := 70) rfl dX12_soon_70 rfl
  · refine T_iload_n (pc := 32) 1 dX12_soon_32 rfl rfl ?_
    refine T_iload_n (pc := 33) 2 dX12_soon_33 rfl rfl ?_
    refine T_aload_n (pc := 34) 0 dX12_soon_34 rfl rfl ?_
    refine T_getI (pc := 35) fd_10_49 hw1552 dX12_soon_35 ?_
    refine T_icmp_ge (pc := 38) 56 dX12_soon_38 (by decide) (fun _ => ?_) (fun _ => ?_)
    · refine T_iconst (pc := 56) (v := 1) dX12_soon_56 (by decide) ?_
      refine T_goto (pc := 57) 61 dX12_soon_57 (by decide) ?_
      refine T_iadd (pc := 61) dX12_soon_61 ?_
      refine T_letI (fun x4 => ?_)
      refine T_istore_n (pc := 62) (lv' := [(0, .ref 10), (2, .int x4), (3, .int v3)]) dX12_soon_62 rfl (Nat.le_of_ble_eq_true rfl) rfl ?_
      refine T_iinc (pc := 63) (y := 1) (lv' := [(0, .ref 10), (2, .int x4), (3, .int (v3 + (1 : Int32)))]) 2 dX12_soon_63 (by decide) rfl (Nat.le_of_ble_eq_true rfl) rfl ?_
      refine T_goto (pc := 66) 24 dX12_soon_66 (by decide) ?_
      exact hkb x4 (v3 + (1 : Int32))
    · refine T_aload_n (pc := 41) 0 dX12_soon_41 rfl rfl ?_
      refine T_getA (pc := 42) fd_10_45 hw1548 dX12_soon_42 ?_
      refine T_iload_n (pc := 45) 2 dX12_soon_45 rfl rfl ?_
      refine T_iald (pc := 46) rfl dX12_soon_46 (fun x5 => ?_)
      refine T_aload_n (pc := 47) 0 dX12_soon_47 rfl rfl ?_
      refine T_getA (pc := 48) fd_10_44 hw1547 dX12_soon_48 ?_
      refine T_iload_n (pc := 51) 2 dX12_soon_51 rfl rfl ?_
      refine T_iald (pc := 52) rfl dX12_soon_52 (fun x6 => ?_)
      refine T_icmp_eq (pc := 53) 60 dX12_soon_53 (by decide) (fun _ => ?_) (fun _ => ?_)
      · refine T_iconst (pc := 60) (v := 0) dX12_soon_60 (by decide) ?_
        refine T_iadd (pc := 61) dX12_soon_61 ?_
        refine T_letI (fun x7 => ?_)
        refine T_istore_n (pc := 62) (lv' := [(0, .ref 10), (2, .int x7), (3, .int v3)]) dX12_soon_62 rfl (Nat.le_of_ble_eq_true rfl) rfl ?_
        refine T_iinc (pc := 63) (y := 1) (lv' := [(0, .ref 10), (2, .int x7), (3, .int (v3 + (1 : Int32)))]) 2 dX12_soon_63 (by decide) rfl (Nat.le_of_ble_eq_true rfl) rfl ?_
        refine T_goto (pc := 66) 24 dX12_soon_66 (by decide) ?_
        exact hkb x7 (v3 + (1 : Int32))
      · refine T_iconst (pc := 56) (v := 1) dX12_soon_56 (by decide) ?_
        refine T_goto (pc := 57) 61 dX12_soon_57 (by decide) ?_
        refine T_iadd (pc := 61) dX12_soon_61 ?_
        refine T_letI (fun x8 => ?_)
        refine T_istore_n (pc := 62) (lv' := [(0, .ref 10), (2, .int x8), (3, .int v3)]) dX12_soon_62 rfl (Nat.le_of_ble_eq_true rfl) rfl ?_
        refine T_iinc (pc := 63) (y := 1) (lv' := [(0, .ref 10), (2, .int x8), (3, .int (v3 + (1 : Int32)))]) 2 dX12_soon_63 (by decide) rfl (Nat.le_of_ble_eq_true rfl) rfl ?_
        refine T_goto (pc := 66) 24 dX12_soon_66 (by decide) ?_
        exact hkb x8 (v3 + (1 : Int32))
set_option maxRecDepth 100000 in
set_option maxHeartbeats 4000000 in
theorem fX12_soon_P24_T (σ : St) (v2 : Int32) (v3 : Int32) : T kX12_soon cSi σ 24 [(0, .ref 10), (2, .int v2), (3, .int v3)] [] (fX12_soon_P24 σ v2 v3) :=
  it_T (S := (fun _ : Int32 × Int32 => σ)) (lv := fun t : Int32 × Int32 => [(0, .ref 10), (2, .int t.1), (3, .int t.2)]) (st := fun _ => []) (fun kb hkb t => fX12_soon_L24_T (hkb := fun v2 v3 => hkb (v2, v3)) σ t.1 t.2) FU (v2, v3)
set_option maxRecDepth 100000 in
set_option maxHeartbeats 4000000 in
theorem ctX12_soon (σ : St) (p0 : Int32) : Ct yX12_soon kX12_soon [.ref 10, .int p0] σ cSi (fX12_soon σ p0) := by
  refine Ct.of (by decide +kernel) rfl rfl (Nat.le_of_ble_eq_true rfl) ?_
  unfold fX12_soon
  show T _ _ _ 0 [(0, .ref 10), (1, .int p0)] [] _
  refine T_aload_n (pc := 0) 0 dX12_soon_0 rfl rfl ?_
  refine T_iconst (pc := 1) (v := 0) dX12_soon_1 (by decide) ?_
  refine T_putI (pc := 2) fd_10_0 hw1503 dX12_soon_2 ?_
  refine T_letS (fun s1 => ?_)
  refine T_aload_n (pc := 5) 0 dX12_soon_5 rfl rfl ?_
  refine T_iload_n (pc := 6) 1 dX12_soon_6 rfl rfl ?_
  refine T_callPz (pc := 7) (rest := []) (Rn_V (pc := 7) (as := [.int p0]) (rest := []) (ctX12_areRolls s1 p0) rfl rfl mv_X12_areRolls hw1911 rfl ⟨Nat.le_of_ble_eq_true rfl, Nat.le_of_ble_eq_true rfl⟩ (Nat.le_of_ble_eq_true rfl) dX12_soon_7 rfl) rfl (fun x2 => ?_)
  refine T_if_ne (pc := 10) 15 dX12_soon_10 (by decide) (fun _ => ?_) (fun _ => ?_)
  · refine T_aload_n (pc := 15) 0 dX12_soon_15 rfl rfl ?_
    refine T_iload_n (pc := 16) 1 dX12_soon_16 rfl rfl ?_
    refine T_callSv (pc := 17) (rest := []) (Rn_V (pc := 17) (as := [.int p0]) (rest := []) (ctX12_goRehearsal s1 p0) rfl rfl mv_X12_goRehearsal hw2024 rfl ⟨Nat.le_of_ble_eq_true rfl, Nat.le_of_ble_eq_true rfl⟩ (Nat.le_of_ble_eq_true rfl) dX12_soon_17 rfl) rfl (fun s3 => ?_)
    refine T_iconst (pc := 20) (v := 0) dX12_soon_20 (by decide) ?_
    refine T_istore_n (pc := 21) (lv' := [(0, .ref 10), (1, .int p0), (2, .int (0 : Int32))]) dX12_soon_21 rfl (Nat.le_of_ble_eq_true rfl) rfl ?_
    refine T_iconst (pc := 22) (v := 0) dX12_soon_22 (by decide) ?_
    refine T_istore_n (pc := 23) (lv' := [(0, .ref 10), (1, .int p0), (2, .int (0 : Int32)), (3, .int (0 : Int32))]) dX12_soon_23 rfl (Nat.le_of_ble_eq_true rfl) rfl ?_
    refine T_pick (lv' := [(0, .ref 10), (2, .int (0 : Int32)), (3, .int (0 : Int32))]) [0, 2, 3] rfl ?_
    exact fX12_soon_P24_T s3 (0 : Int32) (0 : Int32)
  · refine T_iconst (pc := 13) (v := -1) dX12_soon_13 (by decide) ?_
    exact T_ireturn (pc := 14) rfl dX12_soon_14 rfl
set_option maxRecDepth 100000 in
set_option maxHeartbeats 4000000 in
theorem ctX12_speech (σ : St) (p0 : Int32) (p1 : Int32) : Ct yX12_speech kX12_speech [.ref 10, .int p0, .int p1] σ cSi (fX12_speech σ p0 p1) := by
  refine Ct.of (by decide +kernel) rfl rfl (Nat.le_of_ble_eq_true rfl) ?_
  unfold fX12_speech
  show T _ _ _ 0 [(0, .ref 10), (1, .int p0), (2, .int p1)] [] _
  refine T_aload_n (pc := 0) 0 dX12_speech_0 rfl rfl ?_
  refine T_aload_n (pc := 1) 0 dX12_speech_1 rfl rfl ?_
  refine T_iload_n (pc := 2) 1 dX12_speech_2 rfl rfl ?_
  refine T_callPz (pc := 3) (rest := [.ref 10]) (Rn_V (pc := 3) (as := [.int p0]) (rest := [.ref 10]) (ctX12_isSpeech σ p0) rfl rfl mv_X12_isSpeech hw1849 rfl ⟨Nat.le_of_ble_eq_true rfl, Nat.le_of_ble_eq_true rfl⟩ (Nat.le_of_ble_eq_true rfl) dX12_speech_3 rfl) rfl (fun x1 => ?_)
  refine T_if_eq (pc := 6) 22 dX12_speech_6 (by decide) (fun _ => ?_) (fun _ => ?_)
  · refine T_iconst (pc := 22) (v := 1) dX12_speech_22 (by decide) ?_
    refine T_putI (pc := 23) fd_10_0 hw1503 dX12_speech_23 ?_
    refine T_letS (fun s2 => ?_)
    refine T_aload_n (pc := 26) 0 dX12_speech_26 rfl rfl ?_
    refine T_getI (pc := 27) fd_10_0 hw1503 dX12_speech_27 ?_
    refine T_if_le (pc := 30) 35 dX12_speech_30 (by decide) (fun _ => ?_) (fun _ => ?_)
    · refine T_iload_n (pc := 35) 2 dX12_speech_35 rfl rfl ?_
      refine T_if_ne (pc := 36) 48 dX12_speech_36 (by decide) (fun _ => ?_) (fun _ => ?_)
      · refine T_iload_n (pc := 48) 2 dX12_speech_48 rfl rfl ?_
        refine T_iconst (pc := 49) (v := 1) dX12_speech_49 (by decide) ?_
        refine T_icmp_ne (pc := 50) 62 dX12_speech_50 (by decide) (fun _ => ?_) (fun _ => ?_)
        · refine T_aload_n (pc := 62) 0 dX12_speech_62 rfl rfl ?_
          refine T_getA (pc := 63) fd_10_27 hw1530 dX12_speech_63 ?_
          refine T_bipush (pc := 66) (v := 12) dX12_speech_66 (by decide) ?_
          refine T_iload_n (pc := 68) 1 dX12_speech_68 rfl rfl ?_
          refine T_imul (pc := 69) dX12_speech_69 ?_
          refine T_aload_n (pc := 70) 0 dX12_speech_70 rfl rfl ?_
          refine T_getA (pc := 71) fd_10_23 hw1526 dX12_speech_71 ?_
          refine T_iload_n (pc := 74) 1 dX12_speech_74 rfl rfl ?_
          refine T_iald (pc := 75) rfl dX12_speech_75 (fun x3 => ?_)
          refine T_iadd (pc := 76) dX12_speech_76 ?_
          refine T_iconst (pc := 77) (v := 1) dX12_speech_77 (by decide) ?_
          refine T_isub (pc := 78) dX12_speech_78 ?_
          refine T_iald (pc := 79) rfl dX12_speech_79 (fun x4 => ?_)
          exact T_ireturn (pc := 80) rfl dX12_speech_80 rfl
        · refine T_aload_n (pc := 53) 0 dX12_speech_53 rfl rfl ?_
          refine T_getA (pc := 54) fd_10_22 hw1525 dX12_speech_54 ?_
          refine T_iload_n (pc := 57) 1 dX12_speech_57 rfl rfl ?_
          refine T_iald (pc := 58) rfl dX12_speech_58 (fun x5 => ?_)
          refine T_goto (pc := 59) 80 dX12_speech_59 (by decide) ?_
          exact T_ireturn (pc := 80) rfl dX12_speech_80 rfl
      · refine T_aload_n (pc := 39) 0 dX12_speech_39 rfl rfl ?_
        refine T_getA (pc := 40) fd_10_23 hw1526 dX12_speech_40 ?_
        refine T_iload_n (pc := 43) 1 dX12_speech_43 rfl rfl ?_
        refine T_iald (pc := 44) rfl dX12_speech_44 (fun x6 => ?_)
        refine T_goto (pc := 45) 80 dX12_speech_45 (by decide) ?_
        exact T_ireturn (pc := 80) rfl dX12_speech_80 rfl
    · refine T_iconst (pc := 33) (v := 0) dX12_speech_33 (by decide) ?_
      exact T_ireturn (pc := 34) rfl dX12_speech_34 rfl
  · refine T_iload_n (pc := 9) 2 dX12_speech_9 rfl rfl ?_
    refine T_iconst (pc := 10) (v := 0) dX12_speech_10 (by decide) ?_
    refine T_iconst (pc := 11) (v := 2) dX12_speech_11 (by decide) ?_
    refine T_callPz (pc := 12) (rest := [.ref 10]) (Rn_S (pc := 12) (as := [.int p1, .int (0 : Int32), .int (2 : Int32)]) (rest := [.ref 10]) (ctX12_isIn σ p1 (0 : Int32) (2 : Int32)) ms_X12_isIn hw1689 rfl ⟨Nat.le_of_ble_eq_true rfl, Nat.le_of_ble_eq_true rfl⟩ (Nat.le_of_ble_eq_true rfl) dX12_speech_12 rfl) rfl (fun x7 => ?_)
    refine T_if_eq (pc := 15) 22 dX12_speech_15 (by decide) (fun _ => ?_) (fun _ => ?_)
    · refine T_iconst (pc := 22) (v := 1) dX12_speech_22 (by decide) ?_
      refine T_putI (pc := 23) fd_10_0 hw1503 dX12_speech_23 ?_
      refine T_letS (fun s8 => ?_)
      refine T_aload_n (pc := 26) 0 dX12_speech_26 rfl rfl ?_
      refine T_getI (pc := 27) fd_10_0 hw1503 dX12_speech_27 ?_
      refine T_if_le (pc := 30) 35 dX12_speech_30 (by decide) (fun _ => ?_) (fun _ => ?_)
      · refine T_iload_n (pc := 35) 2 dX12_speech_35 rfl rfl ?_
        refine T_if_ne (pc := 36) 48 dX12_speech_36 (by decide) (fun _ => ?_) (fun _ => ?_)
        · refine T_iload_n (pc := 48) 2 dX12_speech_48 rfl rfl ?_
          refine T_iconst (pc := 49) (v := 1) dX12_speech_49 (by decide) ?_
          refine T_icmp_ne (pc := 50) 62 dX12_speech_50 (by decide) (fun _ => ?_) (fun _ => ?_)
          · refine T_aload_n (pc := 62) 0 dX12_speech_62 rfl rfl ?_
            refine T_getA (pc := 63) fd_10_27 hw1530 dX12_speech_63 ?_
            refine T_bipush (pc := 66) (v := 12) dX12_speech_66 (by decide) ?_
            refine T_iload_n (pc := 68) 1 dX12_speech_68 rfl rfl ?_
            refine T_imul (pc := 69) dX12_speech_69 ?_
            refine T_aload_n (pc := 70) 0 dX12_speech_70 rfl rfl ?_
            refine T_getA (pc := 71) fd_10_23 hw1526 dX12_speech_71 ?_
            refine T_iload_n (pc := 74) 1 dX12_speech_74 rfl rfl ?_
            refine T_iald (pc := 75) rfl dX12_speech_75 (fun x9 => ?_)
            refine T_iadd (pc := 76) dX12_speech_76 ?_
            refine T_iconst (pc := 77) (v := 1) dX12_speech_77 (by decide) ?_
            refine T_isub (pc := 78) dX12_speech_78 ?_
            refine T_iald (pc := 79) rfl dX12_speech_79 (fun x10 => ?_)
            exact T_ireturn (pc := 80) rfl dX12_speech_80 rfl
          · refine T_aload_n (pc := 53) 0 dX12_speech_53 rfl rfl ?_
            refine T_getA (pc := 54) fd_10_22 hw1525 dX12_speech_54 ?_
            refine T_iload_n (pc := 57) 1 dX12_speech_57 rfl rfl ?_
            refine T_iald (pc := 58) rfl dX12_speech_58 (fun x11 => ?_)
            refine T_goto (pc := 59) 80 dX12_speech_59 (by decide) ?_
            exact T_ireturn (pc := 80) rfl dX12_speech_80 rfl
        · refine T_aload_n (pc := 39) 0 dX12_speech_39 rfl rfl ?_
          refine T_getA (pc := 40) fd_10_23 hw1526 dX12_speech_40 ?_
          refine T_iload_n (pc := 43) 1 dX12_speech_43 rfl rfl ?_
          refine T_iald (pc := 44) rfl dX12_speech_44 (fun x12 => ?_)
          refine T_goto (pc := 45) 80 dX12_speech_45 (by decide) ?_
          exact T_ireturn (pc := 80) rfl dX12_speech_80 rfl
      · refine T_iconst (pc := 33) (v := 0) dX12_speech_33 (by decide) ?_
        exact T_ireturn (pc := 34) rfl dX12_speech_34 rfl
    · refine T_iconst (pc := 18) (v := 0) dX12_speech_18 (by decide) ?_
      refine T_goto (pc := 19) 23 dX12_speech_19 (by decide) ?_
      refine T_putI (pc := 23) fd_10_0 hw1503 dX12_speech_23 ?_
      refine T_letS (fun s13 => ?_)
      refine T_aload_n (pc := 26) 0 dX12_speech_26 rfl rfl ?_
      refine T_getI (pc := 27) fd_10_0 hw1503 dX12_speech_27 ?_
      refine T_if_le (pc := 30) 35 dX12_speech_30 (by decide) (fun _ => ?_) (fun _ => ?_)
      · refine T_iload_n (pc := 35) 2 dX12_speech_35 rfl rfl ?_
        refine T_if_ne (pc := 36) 48 dX12_speech_36 (by decide) (fun _ => ?_) (fun _ => ?_)
        · refine T_iload_n (pc := 48) 2 dX12_speech_48 rfl rfl ?_
          refine T_iconst (pc := 49) (v := 1) dX12_speech_49 (by decide) ?_
          refine T_icmp_ne (pc := 50) 62 dX12_speech_50 (by decide) (fun _ => ?_) (fun _ => ?_)
          · refine T_aload_n (pc := 62) 0 dX12_speech_62 rfl rfl ?_
            refine T_getA (pc := 63) fd_10_27 hw1530 dX12_speech_63 ?_
            refine T_bipush (pc := 66) (v := 12) dX12_speech_66 (by decide) ?_
            refine T_iload_n (pc := 68) 1 dX12_speech_68 rfl rfl ?_
            refine T_imul (pc := 69) dX12_speech_69 ?_
            refine T_aload_n (pc := 70) 0 dX12_speech_70 rfl rfl ?_
            refine T_getA (pc := 71) fd_10_23 hw1526 dX12_speech_71 ?_
            refine T_iload_n (pc := 74) 1 dX12_speech_74 rfl rfl ?_
            refine T_iald (pc := 75) rfl dX12_speech_75 (fun x14 => ?_)
            refine T_iadd (pc := 76) dX12_speech_76 ?_
            refine T_iconst (pc := 77) (v := 1) dX12_speech_77 (by decide) ?_
            refine T_isub (pc := 78) dX12_speech_78 ?_
            refine T_iald (pc := 79) rfl dX12_speech_79 (fun x15 => ?_)
            exact T_ireturn (pc := 80) rfl dX12_speech_80 rfl
          · refine T_aload_n (pc := 53) 0 dX12_speech_53 rfl rfl ?_
            refine T_getA (pc := 54) fd_10_22 hw1525 dX12_speech_54 ?_
            refine T_iload_n (pc := 57) 1 dX12_speech_57 rfl rfl ?_
            refine T_iald (pc := 58) rfl dX12_speech_58 (fun x16 => ?_)
            refine T_goto (pc := 59) 80 dX12_speech_59 (by decide) ?_
            exact T_ireturn (pc := 80) rfl dX12_speech_80 rfl
        · refine T_aload_n (pc := 39) 0 dX12_speech_39 rfl rfl ?_
          refine T_getA (pc := 40) fd_10_23 hw1526 dX12_speech_40 ?_
          refine T_iload_n (pc := 43) 1 dX12_speech_43 rfl rfl ?_
          refine T_iald (pc := 44) rfl dX12_speech_44 (fun x17 => ?_)
          refine T_goto (pc := 45) 80 dX12_speech_45 (by decide) ?_
          exact T_ireturn (pc := 80) rfl dX12_speech_80 rfl
      · refine T_iconst (pc := 33) (v := 0) dX12_speech_33 (by decide) ?_
        exact T_ireturn (pc := 34) rfl dX12_speech_34 rfl
set_option maxRecDepth 100000 in
set_option maxHeartbeats 4000000 in
theorem fX12_sure_L65_T (v2 : Int32) (v3 : Int32) (v4 : Int32) (v5 : Int32) (σ : St) {k1 : Int64 → Option (Int32 × St)} {kb : Int64 → Int32 → Option (Int32 × St)} (hk1 : ∀ (w6 : Int64), T kX12_sure cSi σ 204 [(0, .ref 10), (6, .long w6)] [] (k1 w6)) (hkb : ∀ (w6 : Int64) (w8 : Int32), T kX12_sure cSi σ 65 [(0, .ref 10), (2, .int v2), (3, .int v3), (4, .int v4), (5, .int v5), (6, .long w6), (8, .int w8)] [] (kb w6 w8)) (v6 : Int64) (v8 : Int32) : T kX12_sure cSi σ 65 [(0, .ref 10), (2, .int v2), (3, .int v3), (4, .int v4), (5, .int v5), (6, .long v6), (8, .int v8)] [] (fX12_sure_L65 v2 v3 v4 v5 k1 kb σ v6 v8) := by
  unfold fX12_sure_L65
  refine T_iload (pc := 65) 6 dX12_sure_65 rfl ?_
  refine T_aload_n (pc := 67) 0 dX12_sure_67 rfl rfl ?_
  refine T_getI (pc := 68) fd_10_42 hw1545 dX12_sure_68 ?_
  refine T_icmp_ge (pc := 71) 204 dX12_sure_71 (by decide) (fun _ => ?_) (fun _ => ?_)
  · refine T_pick (lv' := [(0, .ref 10), (6, .long v6)]) [0, 5] rfl ?_
    exact hk1 v6
  · refine T_aload_n (pc := 74) 0 dX12_sure_74 rfl rfl ?_
    refine T_iload (pc := 75) 6 dX12_sure_75 rfl ?_
    refine T_iload (pc := 77) 3 dX12_sure_77 rfl ?_
    refine T_callPi (pc := 79) (rest := []) (Rn_V (pc := 79) (as := [.int v8, .int v4]) (rest := []) (ctX12_saidOf σ v8 v4) rfl rfl mv_X12_saidOf hw1951 rfl ⟨Nat.le_of_ble_eq_true rfl, Nat.le_of_ble_eq_true rfl⟩ (Nat.le_of_ble_eq_true rfl) dX12_sure_79 rfl) rfl (fun x9 => ?_)
    refine T_iload_n (pc := 82) 1 dX12_sure_82 rfl rfl ?_
    refine T_bipush (pc := 83) (v := 16) dX12_sure_83 (by decide) ?_
    refine T_irem (pc := 85) dX12_sure_85 ?_
    refine T_iconst (pc := 86) (v := 1) dX12_sure_86 (by decide) ?_
    refine T_iadd (pc := 87) dX12_sure_87 ?_
    refine T_icmp_ne (pc := 88) 198 dX12_sure_88 (by decide) (fun _ => ?_) (fun _ => ?_)
    · refine T_iinc (pc := 198) (y := 1) (lv' := [(0, .ref 10), (2, .int v2), (3, .int v3), (4, .int v4), (5, .int v5), (6, .long v6), (8, .int (v8 + (1 : Int32)))]) 6 dX12_sure_198 (by decide) rfl (Nat.le_of_ble_eq_true rfl) rfl ?_
      refine T_goto (pc := 201) 65 dX12_sure_201 (by decide) ?_
      exact hkb v6 (v8 + (1 : Int32))
    · refine T_aload_n (pc := 91) 0 dX12_sure_91 rfl rfl ?_
      refine T_iload (pc := 92) 6 dX12_sure_92 rfl ?_
      refine T_iload (pc := 94) 4 dX12_sure_94 rfl ?_
      refine T_callPi (pc := 96) (rest := []) (Rn_V (pc := 96) (as := [.int v8, .int v5]) (rest := []) (ctX12_saidOf σ v8 v5) rfl rfl mv_X12_saidOf hw1951 rfl ⟨Nat.le_of_ble_eq_true rfl, Nat.le_of_ble_eq_true rfl⟩ (Nat.le_of_ble_eq_true rfl) dX12_sure_96 rfl) rfl (fun x10 => ?_)
      refine T_iload_n (pc := 99) 2 dX12_sure_99 rfl rfl ?_
      refine T_bipush (pc := 100) (v := 16) dX12_sure_100 (by decide) ?_
      refine T_irem (pc := 102) dX12_sure_102 ?_
      refine T_icmp_eq (pc := 103) 109 dX12_sure_103 (by decide) (fun _ => ?_) (fun _ => ?_)
      · refine T_bipush (pc := 109) (v := 9) dX12_sure_109 (by decide) ?_
        refine T_iload (pc := 111) 6 dX12_sure_111 rfl ?_
        refine T_imul (pc := 113) dX12_sure_113 ?_
        refine T_iload (pc := 114) 3 dX12_sure_114 rfl ?_
        refine T_iadd (pc := 116) dX12_sure_116 ?_
        refine T_iconst (pc := 117) (v := 1) dX12_sure_117 (by decide) ?_
        refine T_iadd (pc := 118) dX12_sure_118 ?_
        refine T_letI (fun x11 => ?_)
        refine T_istore (pc := 119) (lv' := [(0, .ref 10), (2, .int v2), (3, .int v3), (4, .int v4), (5, .int v5), (6, .long v6), (8, .int v8), (9, .int x11)]) dX12_sure_119 (Nat.le_of_ble_eq_true rfl) rfl ?_
        refine T_bipush (pc := 121) (v := 9) dX12_sure_121 (by decide) ?_
        refine T_iload (pc := 123) 6 dX12_sure_123 rfl ?_
        refine T_aload_n (pc := 125) 0 dX12_sure_125 rfl rfl ?_
        refine T_getA (pc := 126) fd_10_37 hw1540 dX12_sure_126 ?_
        refine T_iload (pc := 129) 4 dX12_sure_129 rfl ?_
        refine T_iald (pc := 131) rfl dX12_sure_131 (fun x12 => ?_)
        refine T_iadd (pc := 132) dX12_sure_132 ?_
        refine T_imul (pc := 133) dX12_sure_133 ?_
        refine T_iload (pc := 134) 4 dX12_sure_134 rfl ?_
        refine T_iadd (pc := 136) dX12_sure_136 ?_
        refine T_iconst (pc := 137) (v := 1) dX12_sure_137 (by decide) ?_
        refine T_iadd (pc := 138) dX12_sure_138 ?_
        refine T_letI (fun x13 => ?_)
        refine T_istore (pc := 139) (lv' := [(0, .ref 10), (2, .int v2), (3, .int v3), (4, .int v4), (5, .int v5), (6, .long v6), (8, .int v8), (9, .int x11), (10, .int x13)]) dX12_sure_139 (Nat.le_of_ble_eq_true rfl) rfl ?_
        refine T_aload_n (pc := 141) 0 dX12_sure_141 rfl rfl ?_
        refine T_getA (pc := 142) fd_10_39 hw1542 dX12_sure_142 ?_
        refine T_iload (pc := 145) 7 dX12_sure_145 rfl ?_
        refine T_iald (pc := 147) rfl dX12_sure_147 (fun x14 => ?_)
        refine T_aload_n (pc := 148) 0 dX12_sure_148 rfl rfl ?_
        refine T_iload (pc := 149) 6 dX12_sure_149 rfl ?_
        refine T_iload (pc := 151) 3 dX12_sure_151 rfl ?_
        refine T_iconst (pc := 153) (v := 1) dX12_sure_153 (by decide) ?_
        refine T_iadd (pc := 154) dX12_sure_154 ?_
        refine T_iload (pc := 155) 4 dX12_sure_155 rfl ?_
        refine T_callPi (pc := 157) (rest := [.int x14]) (Rn_V (pc := 157) (as := [.int v8, .int (v4 + (1 : Int32)), .int v5]) (rest := [.int x14]) (ctX12_gapOf σ v8 (v4 + (1 : Int32)) v5) rfl rfl mv_X12_gapOf hw1959 rfl ⟨Nat.le_of_ble_eq_true rfl, Nat.le_of_ble_eq_true rfl⟩ (Nat.le_of_ble_eq_true rfl) dX12_sure_157 rfl) rfl (fun x15 => ?_)
        refine T_iadd (pc := 160) dX12_sure_160 ?_
        refine T_aload_n (pc := 161) 0 dX12_sure_161 rfl rfl ?_
        refine T_getA (pc := 162) fd_10_38 hw1541 dX12_sure_162 ?_
        refine T_iload (pc := 165) 8 dX12_sure_165 rfl ?_
        refine T_iald (pc := 167) rfl dX12_sure_167 (fun x16 => ?_)
        refine T_iadd (pc := 168) dX12_sure_168 ?_
        refine T_aload_n (pc := 169) 0 dX12_sure_169 rfl rfl ?_
        refine T_getA (pc := 170) fd_10_38 hw1541 dX12_sure_170 ?_
        refine T_iconst (pc := 173) (v := 0) dX12_sure_173 (by decide) ?_
        refine T_iald (pc := 174) rfl dX12_sure_174 (fun x17 => ?_)
        refine T_icmp_ne (pc := 175) 198 dX12_sure_175 (by decide) (fun _ => ?_) (fun _ => ?_)
        · refine T_iinc (pc := 198) (y := 1) (lv' := [(0, .ref 10), (2, .int v2), (3, .int v3), (4, .int v4), (5, .int v5), (6, .long v6), (8, .int (v8 + (1 : Int32))), (9, .int x11), (10, .int x13)]) 6 dX12_sure_198 (by decide) rfl (Nat.le_of_ble_eq_true rfl) rfl ?_
          refine T_goto (pc := 201) 65 dX12_sure_201 (by decide) ?_
          refine T_pick (lv' := [(0, .ref 10), (2, .int v2), (3, .int v3), (4, .int v4), (5, .int v5), (6, .long v6), (8, .int (v8 + (1 : Int32)))]) [0, 1, 2, 3, 4, 5, 6] rfl ?_
          exact hkb v6 (v8 + (1 : Int32))
        · refine T_lload (pc := 178) 5 dX12_sure_178 rfl ?_
          refine T_aload_n (pc := 180) 0 dX12_sure_180 rfl rfl ?_
          refine T_getA (pc := 181) fd_10_41 hw1544 dX12_sure_181 ?_
          refine T_iload (pc := 184) 7 dX12_sure_184 rfl ?_
          refine T_lald (pc := 186) rfl dX12_sure_186 (fun x18 => ?_)
          refine T_aload_n (pc := 187) 0 dX12_sure_187 rfl rfl ?_
          refine T_getA (pc := 188) fd_10_40 hw1543 dX12_sure_188 ?_
          refine T_iload (pc := 191) 8 dX12_sure_191 rfl ?_
          refine T_lald (pc := 193) rfl dX12_sure_193 (fun x19 => ?_)
          refine T_lmul (pc := 194) dX12_sure_194 ?_
          refine T_ladd (pc := 195) dX12_sure_195 ?_
          refine T_letL (fun x20 => ?_)
          refine T_lstore (pc := 196) (lv' := [(0, .ref 10), (2, .int v2), (3, .int v3), (4, .int v4), (5, .int v5), (6, .long x20), (8, .int v8), (9, .int x11), (10, .int x13)]) dX12_sure_196 (Nat.le_of_ble_eq_true rfl) rfl ?_
          refine T_iinc (pc := 198) (y := 1) (lv' := [(0, .ref 10), (2, .int v2), (3, .int v3), (4, .int v4), (5, .int v5), (6, .long x20), (8, .int (v8 + (1 : Int32))), (9, .int x11), (10, .int x13)]) 6 dX12_sure_198 (by decide) rfl (Nat.le_of_ble_eq_true rfl) rfl ?_
          refine T_goto (pc := 201) 65 dX12_sure_201 (by decide) ?_
          refine T_pick (lv' := [(0, .ref 10), (2, .int v2), (3, .int v3), (4, .int v4), (5, .int v5), (6, .long x20), (8, .int (v8 + (1 : Int32)))]) [0, 1, 2, 3, 4, 5, 6] rfl ?_
          exact hkb x20 (v8 + (1 : Int32))
      · refine T_goto (pc := 106) 198 dX12_sure_106 (by decide) ?_
        refine T_iinc (pc := 198) (y := 1) (lv' := [(0, .ref 10), (2, .int v2), (3, .int v3), (4, .int v4), (5, .int v5), (6, .long v6), (8, .int (v8 + (1 : Int32)))]) 6 dX12_sure_198 (by decide) rfl (Nat.le_of_ble_eq_true rfl) rfl ?_
        refine T_goto (pc := 201) 65 dX12_sure_201 (by decide) ?_
        exact hkb v6 (v8 + (1 : Int32))
set_option maxRecDepth 100000 in
set_option maxHeartbeats 4000000 in
theorem fX12_sure_P65_T (v2 : Int32) (v3 : Int32) (v4 : Int32) (v5 : Int32) (σ : St) {k1 : Int64 → Option (Int32 × St)} (hk1 : ∀ (w6 : Int64), T kX12_sure cSi σ 204 [(0, .ref 10), (6, .long w6)] [] (k1 w6)) (v6 : Int64) (v8 : Int32) : T kX12_sure cSi σ 65 [(0, .ref 10), (2, .int v2), (3, .int v3), (4, .int v4), (5, .int v5), (6, .long v6), (8, .int v8)] [] (fX12_sure_P65 v2 v3 v4 v5 k1 σ v6 v8) :=
  it_T (S := (fun _ : Int64 × Int32 => σ)) (lv := fun t : Int64 × Int32 => [(0, .ref 10), (2, .int v2), (3, .int v3), (4, .int v4), (5, .int v5), (6, .long t.1), (8, .int t.2)]) (st := fun _ => []) (fun kb hkb t => fX12_sure_L65_T v2 v3 v4 v5 (hk1 := hk1) (hkb := fun v6 v8 => hkb (v6, v8)) σ t.1 t.2) FU (v6, v8)
set_option maxRecDepth 100000 in
set_option maxHeartbeats 4000000 in
theorem ctX12_sure (σ : St) (p0 : Int32) (p1 : Int32) (p2 : Int32) : Ct yX12_sure kX12_sure [.ref 10, .int p0, .int p1, .int p2] σ cSi (fX12_sure σ p0 p1 p2) := by
  refine Ct.of (by decide +kernel) rfl rfl (Nat.le_of_ble_eq_true rfl) ?_
  unfold fX12_sure
  show T _ _ _ 0 [(0, .ref 10), (1, .int p0), (2, .int p1), (3, .int p2)] [] _
  refine T_aload_n (pc := 0) 0 dX12_sure_0 rfl rfl ?_
  refine T_iconst (pc := 1) (v := 0) dX12_sure_1 (by decide) ?_
  refine T_putI (pc := 2) fd_10_0 hw1503 dX12_sure_2 ?_
  refine T_letS (fun s1 => ?_)
  refine T_aload_n (pc := 5) 0 dX12_sure_5 rfl rfl ?_
  refine T_iload_n (pc := 6) 2 dX12_sure_6 rfl rfl ?_
  refine T_iload_n (pc := 7) 1 dX12_sure_7 rfl rfl ?_
  refine T_callPz (pc := 8) (rest := []) (Rn_V (pc := 8) (as := [.int p1, .int p0]) (rest := []) (ctX12_isOf s1 p1 p0) rfl rfl mv_X12_isOf hw1907 rfl ⟨Nat.le_of_ble_eq_true rfl, Nat.le_of_ble_eq_true rfl⟩ (Nat.le_of_ble_eq_true rfl) dX12_sure_8 rfl) rfl (fun x2 => ?_)
  refine T_if_eq (pc := 11) 36 dX12_sure_11 (by decide) (fun _ => ?_) (fun _ => ?_)
  · refine T_bipush (pc := 36) (v := -2) dX12_sure_36 (by decide) ?_
    exact T_ireturn (pc := 38) rfl dX12_sure_38 rfl
  · refine T_aload_n (pc := 14) 0 dX12_sure_14 rfl rfl ?_
    refine T_iload_n (pc := 15) 3 dX12_sure_15 rfl rfl ?_
    refine T_iload_n (pc := 16) 1 dX12_sure_16 rfl rfl ?_
    refine T_callPz (pc := 17) (rest := []) (Rn_V (pc := 17) (as := [.int p2, .int p0]) (rest := []) (ctX12_isOf s1 p2 p0) rfl rfl mv_X12_isOf hw1907 rfl ⟨Nat.le_of_ble_eq_true rfl, Nat.le_of_ble_eq_true rfl⟩ (Nat.le_of_ble_eq_true rfl) dX12_sure_17 rfl) rfl (fun x3 => ?_)
    refine T_if_eq (pc := 20) 36 dX12_sure_20 (by decide) (fun _ => ?_) (fun _ => ?_)
    · refine T_bipush (pc := 36) (v := -2) dX12_sure_36 (by decide) ?_
      exact T_ireturn (pc := 38) rfl dX12_sure_38 rfl
    · refine T_iload_n (pc := 23) 2 dX12_sure_23 rfl rfl ?_
      refine T_iload_n (pc := 24) 3 dX12_sure_24 rfl rfl ?_
      refine T_icmp_eq (pc := 25) 36 dX12_sure_25 (by decide) (fun _ => ?_) (fun _ => ?_)
      · refine T_bipush (pc := 36) (v := -2) dX12_sure_36 (by decide) ?_
        exact T_ireturn (pc := 38) rfl dX12_sure_38 rfl
      · refine T_aload_n (pc := 28) 0 dX12_sure_28 rfl rfl ?_
        refine T_iload_n (pc := 29) 1 dX12_sure_29 rfl rfl ?_
        refine T_callSz (pc := 30) (rest := []) (Rn_V (pc := 30) (as := [.int p0]) (rest := []) (ctX12_isSmall s1 p0) rfl rfl mv_X12_isSmall hw1939 rfl ⟨Nat.le_of_ble_eq_true rfl, Nat.le_of_ble_eq_true rfl⟩ (Nat.le_of_ble_eq_true rfl) dX12_sure_30 rfl) rfl (fun r4 => ?_)
        refine T_if_ne (pc := 33) 39 dX12_sure_33 (by decide) (fun _ => ?_) (fun _ => ?_)
        · refine T_aload_n (pc := 39) 0 dX12_sure_39 rfl rfl ?_
          refine T_callSv (pc := 40) (rest := []) (Rn_V (pc := 40) (as := []) (rest := []) (ctX12_layLeft r4.2) rfl rfl mv_X12_layLeft hw1947 rfl ⟨Nat.le_of_ble_eq_true rfl, Nat.le_of_ble_eq_true rfl⟩ (Nat.le_of_ble_eq_true rfl) dX12_sure_40 rfl) rfl (fun s5 => ?_)
          refine T_aload_n (pc := 43) 0 dX12_sure_43 rfl rfl ?_
          refine T_callSv (pc := 44) (rest := []) (Rn_V (pc := 44) (as := []) (rest := []) (ctX12_laySoFar s5) rfl rfl mv_X12_laySoFar hw1976 rfl ⟨Nat.le_of_ble_eq_true rfl, Nat.le_of_ble_eq_true rfl⟩ (Nat.le_of_ble_eq_true rfl) dX12_sure_44 rfl) rfl (fun s6 => ?_)
          refine T_iload_n (pc := 47) 2 dX12_sure_47 rfl rfl ?_
          refine T_bipush (pc := 48) (v := 16) dX12_sure_48 (by decide) ?_
          refine T_idiv (pc := 50) dX12_sure_50 ?_
          refine T_letI (fun x7 => ?_)
          refine T_istore (pc := 51) (lv' := [(0, .ref 10), (1, .int p0), (2, .int p1), (3, .int p2), (4, .int x7)]) dX12_sure_51 (Nat.le_of_ble_eq_true rfl) rfl ?_
          refine T_iload_n (pc := 53) 3 dX12_sure_53 rfl rfl ?_
          refine T_bipush (pc := 54) (v := 16) dX12_sure_54 (by decide) ?_
          refine T_idiv (pc := 56) dX12_sure_56 ?_
          refine T_letI (fun x8 => ?_)
          refine T_istore (pc := 57) (lv' := [(0, .ref 10), (1, .int p0), (2, .int p1), (3, .int p2), (4, .int x7), (5, .int x8)]) dX12_sure_57 (Nat.le_of_ble_eq_true rfl) rfl ?_
          refine T_lconst (pc := 59) (v := 0) dX12_sure_59 (by decide) ?_
          refine T_lstore (pc := 60) (lv' := [(0, .ref 10), (1, .int p0), (2, .int p1), (3, .int p2), (4, .int x7), (5, .int x8), (6, .long (0 : Int64))]) dX12_sure_60 (Nat.le_of_ble_eq_true rfl) rfl ?_
          refine T_iconst (pc := 62) (v := 0) dX12_sure_62 (by decide) ?_
          refine T_istore (pc := 63) (lv' := [(0, .ref 10), (1, .int p0), (2, .int p1), (3, .int p2), (4, .int x7), (5, .int x8), (6, .long (0 : Int64)), (8, .int (0 : Int32))]) dX12_sure_63 (Nat.le_of_ble_eq_true rfl) rfl ?_
          refine T_pick (lv' := [(0, .ref 10), (2, .int p1), (3, .int p2), (4, .int x7), (5, .int x8), (6, .long (0 : Int64)), (8, .int (0 : Int32))]) [0, 2, 3, 4, 5, 6, 7] rfl ?_
          refine fX12_sure_P65_T p1 p2 x7 x8 (hk1 := fun x21 => ?_) s6 (0 : Int64) (0 : Int32)
          · refine T_lload (pc := 204) 1 dX12_sure_204 rfl ?_
            refine T_lconst (pc := 206) (v := 0) dX12_sure_206 (by decide) ?_
            refine T_lcmp (pc := 207) dX12_sure_207 ?_
            refine T_if_ne (pc := 208) 215 dX12_sure_208 (by decide) (fun _ => ?_) (fun _ => ?_)
            · refine T_lload (pc := 215) 1 dX12_sure_215 rfl ?_
              refine T_aload_n (pc := 217) 0 dX12_sure_217 rfl rfl ?_
              refine T_getA (pc := 218) fd_10_40 hw1543 dX12_sure_218 ?_
              refine T_iconst (pc := 221) (v := 0) dX12_sure_221 (by decide) ?_
              refine T_lald (pc := 222) rfl dX12_sure_222 (fun x22 => ?_)
              refine T_lcmp (pc := 223) dX12_sure_223 ?_
              refine T_if_ne (pc := 224) 231 dX12_sure_224 (by decide) (fun _ => ?_) (fun _ => ?_)
              · refine T_iconst (pc := 231) (v := -1) dX12_sure_231 (by decide) ?_
                exact T_ireturn (pc := 232) rfl dX12_sure_232 rfl
              · refine T_iconst (pc := 227) (v := 1) dX12_sure_227 (by decide) ?_
                refine T_goto (pc := 228) 232 dX12_sure_228 (by decide) ?_
                exact T_ireturn (pc := 232) rfl dX12_sure_232 rfl
            · refine T_iconst (pc := 211) (v := 0) dX12_sure_211 (by decide) ?_
              refine T_goto (pc := 212) 232 dX12_sure_212 (by decide) ?_
              exact T_ireturn (pc := 232) rfl dX12_sure_232 rfl
        · refine T_bipush (pc := 36) (v := -2) dX12_sure_36 (by decide) ?_
          exact T_ireturn (pc := 38) rfl dX12_sure_38 rfl
set_option maxRecDepth 100000 in
set_option maxHeartbeats 4000000 in
theorem fX12_tempted_L29_T (v1 : Int32) (v3 : Int32) (σ : St) {k1 : Int32 → Option (Int32 × St)} {kb : Int32 → Int32 → Option (Int32 × St)} (hk1 : ∀ (w2 : Int32), T kX12_tempted cSi σ 81 [(0, .ref 10), (1, .int v1), (2, .int w2), (3, .int v3)] [] (k1 w2)) (hkb : ∀ (w2 : Int32) (w4 : Int32), T kX12_tempted cSi σ 29 [(0, .ref 10), (1, .int v1), (2, .int w2), (3, .int v3), (4, .int w4)] [] (kb w2 w4)) (v2 : Int32) (v4 : Int32) : T kX12_tempted cSi σ 29 [(0, .ref 10), (1, .int v1), (2, .int v2), (3, .int v3), (4, .int v4)] [] (fX12_tempted_L29 v1 v3 k1 kb σ v2 v4) := by
  unfold fX12_tempted_L29
  refine T_iload (pc := 29) 4 dX12_tempted_29 rfl ?_
  refine T_sipush (pc := 31) (v := 128) dX12_tempted_31 (by decide) ?_
  refine T_icmp_ge (pc := 34) 81 dX12_tempted_34 (by decide) (fun _ => ?_) (fun _ => ?_)
  · refine T_pick (lv' := [(0, .ref 10), (1, .int v1), (2, .int v2), (3, .int v3)]) [0, 1, 2, 3] rfl ?_
    exact hk1 v2
  · refine T_iload_n (pc := 37) 2 dX12_tempted_37 rfl rfl ?_
    refine T_aload_n (pc := 38) 0 dX12_tempted_38 rfl rfl ?_
    refine T_iload_n (pc := 39) 3 dX12_tempted_39 rfl rfl ?_
    refine T_iload_n (pc := 40) 1 dX12_tempted_40 rfl rfl ?_
    refine T_callPz (pc := 41) (rest := [.int v2]) (Rn_V (pc := 41) (as := [.int v3, .int v1]) (rest := [.int v2]) (ctX12_isOf σ v3 v1) rfl rfl mv_X12_isOf hw1907 rfl ⟨Nat.le_of_ble_eq_true rfl, Nat.le_of_ble_eq_true rfl⟩ (Nat.le_of_ble_eq_true rfl) dX12_tempted_41 rfl) rfl (fun x3 => ?_)
    refine T_if_eq (pc := 44) 72 dX12_tempted_44 (by decide) (fun _ => ?_) (fun _ => ?_)
    · refine T_iconst (pc := 72) (v := 0) dX12_tempted_72 (by decide) ?_
      refine T_iadd (pc := 73) dX12_tempted_73 ?_
      refine T_letI (fun x4 => ?_)
      refine T_istore_n (pc := 74) (lv' := [(0, .ref 10), (1, .int v1), (2, .int x4), (3, .int v3), (4, .int v4)]) dX12_tempted_74 rfl (Nat.le_of_ble_eq_true rfl) rfl ?_
      refine T_iinc (pc := 75) (y := 1) (lv' := [(0, .ref 10), (1, .int v1), (2, .int x4), (3, .int v3), (4, .int (v4 + (1 : Int32)))]) 4 dX12_tempted_75 (by decide) rfl (Nat.le_of_ble_eq_true rfl) rfl ?_
      refine T_goto (pc := 78) 29 dX12_tempted_78 (by decide) ?_
      exact hkb x4 (v4 + (1 : Int32))
    · refine T_aload_n (pc := 47) 0 dX12_tempted_47 rfl rfl ?_
      refine T_iload (pc := 48) 4 dX12_tempted_48 rfl ?_
      refine T_iload_n (pc := 50) 1 dX12_tempted_50 rfl rfl ?_
      refine T_callPz (pc := 51) (rest := [.int v2]) (Rn_V (pc := 51) (as := [.int v4, .int v1]) (rest := [.int v2]) (ctX12_isOf σ v4 v1) rfl rfl mv_X12_isOf hw1907 rfl ⟨Nat.le_of_ble_eq_true rfl, Nat.le_of_ble_eq_true rfl⟩ (Nat.le_of_ble_eq_true rfl) dX12_tempted_51 rfl) rfl (fun x5 => ?_)
      refine T_if_eq (pc := 54) 72 dX12_tempted_54 (by decide) (fun _ => ?_) (fun _ => ?_)
      · refine T_iconst (pc := 72) (v := 0) dX12_tempted_72 (by decide) ?_
        refine T_iadd (pc := 73) dX12_tempted_73 ?_
        refine T_letI (fun x6 => ?_)
        refine T_istore_n (pc := 74) (lv' := [(0, .ref 10), (1, .int v1), (2, .int x6), (3, .int v3), (4, .int v4)]) dX12_tempted_74 rfl (Nat.le_of_ble_eq_true rfl) rfl ?_
        refine T_iinc (pc := 75) (y := 1) (lv' := [(0, .ref 10), (1, .int v1), (2, .int x6), (3, .int v3), (4, .int (v4 + (1 : Int32)))]) 4 dX12_tempted_75 (by decide) rfl (Nat.le_of_ble_eq_true rfl) rfl ?_
        refine T_goto (pc := 78) 29 dX12_tempted_78 (by decide) ?_
        exact hkb x6 (v4 + (1 : Int32))
      · refine T_aload_n (pc := 57) 0 dX12_tempted_57 rfl rfl ?_
        refine T_iload_n (pc := 58) 3 dX12_tempted_58 rfl rfl ?_
        refine T_iload (pc := 59) 4 dX12_tempted_59 rfl ?_
        refine T_callPi (pc := 61) (rest := [.int v2]) (Rn_V (pc := 61) (as := [.int v3, .int v4]) (rest := [.int v2]) (ctX12_insideOf σ v3 v4) rfl rfl mv_X12_insideOf hw2040 rfl ⟨Nat.le_of_ble_eq_true rfl, Nat.le_of_ble_eq_true rfl⟩ (Nat.le_of_ble_eq_true rfl) dX12_tempted_61 rfl) rfl (fun x7 => ?_)
        refine T_iconst (pc := 64) (v := -1) dX12_tempted_64 (by decide) ?_
        refine T_icmp_eq (pc := 65) 72 dX12_tempted_65 (by decide) (fun _ => ?_) (fun _ => ?_)
        · refine T_iconst (pc := 72) (v := 0) dX12_tempted_72 (by decide) ?_
          refine T_iadd (pc := 73) dX12_tempted_73 ?_
          refine T_letI (fun x8 => ?_)
          refine T_istore_n (pc := 74) (lv' := [(0, .ref 10), (1, .int v1), (2, .int x8), (3, .int v3), (4, .int v4)]) dX12_tempted_74 rfl (Nat.le_of_ble_eq_true rfl) rfl ?_
          refine T_iinc (pc := 75) (y := 1) (lv' := [(0, .ref 10), (1, .int v1), (2, .int x8), (3, .int v3), (4, .int (v4 + (1 : Int32)))]) 4 dX12_tempted_75 (by decide) rfl (Nat.le_of_ble_eq_true rfl) rfl ?_
          refine T_goto (pc := 78) 29 dX12_tempted_78 (by decide) ?_
          exact hkb x8 (v4 + (1 : Int32))
        · refine T_iconst (pc := 68) (v := 1) dX12_tempted_68 (by decide) ?_
          refine T_goto (pc := 69) 73 dX12_tempted_69 (by decide) ?_
          refine T_iadd (pc := 73) dX12_tempted_73 ?_
          refine T_letI (fun x9 => ?_)
          refine T_istore_n (pc := 74) (lv' := [(0, .ref 10), (1, .int v1), (2, .int x9), (3, .int v3), (4, .int v4)]) dX12_tempted_74 rfl (Nat.le_of_ble_eq_true rfl) rfl ?_
          refine T_iinc (pc := 75) (y := 1) (lv' := [(0, .ref 10), (1, .int v1), (2, .int x9), (3, .int v3), (4, .int (v4 + (1 : Int32)))]) 4 dX12_tempted_75 (by decide) rfl (Nat.le_of_ble_eq_true rfl) rfl ?_
          refine T_goto (pc := 78) 29 dX12_tempted_78 (by decide) ?_
          exact hkb x9 (v4 + (1 : Int32))
set_option maxRecDepth 100000 in
set_option maxHeartbeats 4000000 in
theorem fX12_tempted_P29_T (v1 : Int32) (v3 : Int32) (σ : St) {k1 : Int32 → Option (Int32 × St)} (hk1 : ∀ (w2 : Int32), T kX12_tempted cSi σ 81 [(0, .ref 10), (1, .int v1), (2, .int w2), (3, .int v3)] [] (k1 w2)) (v2 : Int32) (v4 : Int32) : T kX12_tempted cSi σ 29 [(0, .ref 10), (1, .int v1), (2, .int v2), (3, .int v3), (4, .int v4)] [] (fX12_tempted_P29 v1 v3 k1 σ v2 v4) :=
  it_T (S := (fun _ : Int32 × Int32 => σ)) (lv := fun t : Int32 × Int32 => [(0, .ref 10), (1, .int v1), (2, .int t.1), (3, .int v3), (4, .int t.2)]) (st := fun _ => []) (fun kb hkb t => fX12_tempted_L29_T v1 v3 (hk1 := hk1) (hkb := fun v2 v4 => hkb (v2, v4)) σ t.1 t.2) FU (v2, v4)
set_option maxRecDepth 100000 in
set_option maxHeartbeats 4000000 in
theorem fX12_tempted_L19_T (v1 : Int32) (σ : St) {kb : Int32 → Int32 → Option (Int32 × St)} (hkb : ∀ (w2 : Int32) (w3 : Int32), T kX12_tempted cSi σ 19 [(0, .ref 10), (1, .int v1), (2, .int w2), (3, .int w3)] [] (kb w2 w3)) (v2 : Int32) (v3 : Int32) : T kX12_tempted cSi σ 19 [(0, .ref 10), (1, .int v1), (2, .int v2), (3, .int v3)] [] (fX12_tempted_L19 v1 kb σ v2 v3) := by
  unfold fX12_tempted_L19
  refine T_iload_n (pc := 19) 3 dX12_tempted_19 rfl rfl ?_
  refine T_sipush (pc := 20) (v := 128) dX12_tempted_20 (by decide) ?_
  refine T_icmp_ge (pc := 23) 87 dX12_tempted_23 (by decide) (fun _ => ?_) (fun _ => ?_)
  · refine T_iload_n (pc := 87) 2 dX12_tempted_87 rfl rfl ?_
    exact T_ireturn (pc := 88) rfl dX12_tempted_88 rfl
  · refine T_iconst (pc := 26) (v := 0) dX12_tempted_26 (by decide) ?_
    refine T_istore (pc := 27) (lv' := [(0, .ref 10), (1, .int v1), (2, .int v2), (3, .int v3), (4, .int (0 : Int32))]) dX12_tempted_27 (Nat.le_of_ble_eq_true rfl) rfl ?_
    refine fX12_tempted_P29_T v1 v3 (hk1 := fun x10 => ?_) σ v2 (0 : Int32)
    · refine T_iinc (pc := 81) (y := 1) (lv' := [(0, .ref 10), (1, .int v1), (2, .int x10), (3, .int (v3 + (1 : Int32)))]) 3 dX12_tempted_81 (by decide) rfl (Nat.le_of_ble_eq_true rfl) rfl ?_
      refine T_goto (pc := 84) 19 dX12_tempted_84 (by decide) ?_
      exact hkb x10 (v3 + (1 : Int32))
set_option maxRecDepth 100000 in
set_option maxHeartbeats 4000000 in
theorem fX12_tempted_P19_T (v1 : Int32) (σ : St) (v2 : Int32) (v3 : Int32) : T kX12_tempted cSi σ 19 [(0, .ref 10), (1, .int v1), (2, .int v2), (3, .int v3)] [] (fX12_tempted_P19 v1 σ v2 v3) :=
  it_T (S := (fun _ : Int32 × Int32 => σ)) (lv := fun t : Int32 × Int32 => [(0, .ref 10), (1, .int v1), (2, .int t.1), (3, .int t.2)]) (st := fun _ => []) (fun kb hkb t => fX12_tempted_L19_T v1 (hkb := fun v2 v3 => hkb (v2, v3)) σ t.1 t.2) FU (v2, v3)
set_option maxRecDepth 100000 in
set_option maxHeartbeats 4000000 in
theorem ctX12_tempted (σ : St) (p0 : Int32) : Ct yX12_tempted kX12_tempted [.ref 10, .int p0] σ cSi (fX12_tempted σ p0) := by
  refine Ct.of (by decide +kernel) rfl rfl (Nat.le_of_ble_eq_true rfl) ?_
  unfold fX12_tempted
  show T _ _ _ 0 [(0, .ref 10), (1, .int p0)] [] _
  refine T_aload_n (pc := 0) 0 dX12_tempted_0 rfl rfl ?_
  refine T_iconst (pc := 1) (v := 0) dX12_tempted_1 (by decide) ?_
  refine T_putI (pc := 2) fd_10_0 hw1503 dX12_tempted_2 ?_
  refine T_letS (fun s1 => ?_)
  refine T_aload_n (pc := 5) 0 dX12_tempted_5 rfl rfl ?_
  refine T_iload_n (pc := 6) 1 dX12_tempted_6 rfl rfl ?_
  refine T_callPz (pc := 7) (rest := []) (Rn_V (pc := 7) (as := [.int p0]) (rest := []) (ctX12_areRolls s1 p0) rfl rfl mv_X12_areRolls hw1911 rfl ⟨Nat.le_of_ble_eq_true rfl, Nat.le_of_ble_eq_true rfl⟩ (Nat.le_of_ble_eq_true rfl) dX12_tempted_7 rfl) rfl (fun x2 => ?_)
  refine T_if_ne (pc := 10) 15 dX12_tempted_10 (by decide) (fun _ => ?_) (fun _ => ?_)
  · refine T_iconst (pc := 15) (v := 0) dX12_tempted_15 (by decide) ?_
    refine T_istore_n (pc := 16) (lv' := [(0, .ref 10), (1, .int p0), (2, .int (0 : Int32))]) dX12_tempted_16 rfl (Nat.le_of_ble_eq_true rfl) rfl ?_
    refine T_iconst (pc := 17) (v := 0) dX12_tempted_17 (by decide) ?_
    refine T_istore_n (pc := 18) (lv' := [(0, .ref 10), (1, .int p0), (2, .int (0 : Int32)), (3, .int (0 : Int32))]) dX12_tempted_18 rfl (Nat.le_of_ble_eq_true rfl) rfl ?_
    exact fX12_tempted_P19_T p0 s1 (0 : Int32) (0 : Int32)
  · refine T_iconst (pc := 13) (v := -1) dX12_tempted_13 (by decide) ?_
    exact T_ireturn (pc := 14) rfl dX12_tempted_14 rfl
set_option maxRecDepth 100000 in
set_option maxHeartbeats 4000000 in
theorem fX12_text_L184_T (σ : St) {k1 : St → Option (Int32 × St)} {kb : St → Int32 → Option (Int32 × St)} (hk1 : ∀ (σ' : St), T kX12_text cSi σ' 219 [(0, .ref 10)] [] (k1 σ')) (hkb : ∀ (σ' : St) (w2 : Int32), T kX12_text cSi σ' 184 [(0, .ref 10), (2, .int w2)] [] (kb σ' w2)) (v2 : Int32) : T kX12_text cSi σ 184 [(0, .ref 10), (2, .int v2)] [] (fX12_text_L184 k1 kb σ v2) := by
  unfold fX12_text_L184
  refine T_iload_n (pc := 184) 1 dX12_text_184 rfl rfl ?_
  refine T_aload_n (pc := 185) 0 dX12_text_185 rfl rfl ?_
  refine T_getI (pc := 186) fd_10_7 hw1510 dX12_text_186 ?_
  refine T_icmp_ge (pc := 189) 219 dX12_text_189 (by decide) (fun _ => ?_) (fun _ => ?_)
  · refine T_pick (lv' := [(0, .ref 10)]) [0] rfl ?_
    exact hk1 σ
  · refine T_aload_n (pc := 192) 0 dX12_text_192 rfl rfl ?_
    refine T_getA (pc := 193) fd_10_3 hw1506 dX12_text_193 ?_
    refine T_sipush (pc := 196) (v := 200) dX12_text_196 (by decide) ?_
    refine T_aload_n (pc := 199) 0 dX12_text_199 rfl rfl ?_
    refine T_getI (pc := 200) fd_10_10 hw1513 dX12_text_200 ?_
    refine T_imul (pc := 203) dX12_text_203 ?_
    refine T_iload_n (pc := 204) 1 dX12_text_204 rfl rfl ?_
    refine T_iadd (pc := 205) dX12_text_205 ?_
    refine T_aload_n (pc := 206) 0 dX12_text_206 rfl rfl ?_
    refine T_getA (pc := 207) fd_10_1 hw1504 dX12_text_207 ?_
    refine T_iload_n (pc := 210) 1 dX12_text_210 rfl rfl ?_
    refine T_bald (pc := 211) rfl dX12_text_211 (fun x4 => ?_)
    refine T_bast (pc := 212) rfl dX12_text_212 ?_
    refine T_letS (fun s5 => ?_)
    refine T_iinc (pc := 213) (y := 1) (lv' := [(0, .ref 10), (2, .int (v2 + (1 : Int32)))]) 1 dX12_text_213 (by decide) rfl (Nat.le_of_ble_eq_true rfl) rfl ?_
    refine T_goto (pc := 216) 184 dX12_text_216 (by decide) ?_
    exact hkb s5 (v2 + (1 : Int32))
set_option maxRecDepth 100000 in
set_option maxHeartbeats 4000000 in
theorem fX12_text_P184_T (σ : St) {k1 : St → Option (Int32 × St)} (hk1 : ∀ (σ' : St), T kX12_text cSi σ' 219 [(0, .ref 10)] [] (k1 σ')) (v2 : Int32) : T kX12_text cSi σ 184 [(0, .ref 10), (2, .int v2)] [] (fX12_text_P184 k1 σ v2) :=
  it_T (S := (fun t : St × Int32 => t.1)) (lv := fun t : St × Int32 => [(0, .ref 10), (2, .int t.2)]) (st := fun _ => []) (fun kb hkb t => fX12_text_L184_T (hk1 := hk1) (hkb := fun σ v2 => hkb (σ, v2)) t.1 t.2) FU (σ, v2)
set_option maxRecDepth 100000 in
set_option maxHeartbeats 4000000 in
theorem fX12_text_L80_T (σ : St) {k1 : St → Option (Int32 × St)} {kb : St → Int32 → Option (Int32 × St)} (hk1 : ∀ (σ' : St), T kX12_text cSi σ' 115 [(0, .ref 10)] [] (k1 σ')) (hkb : ∀ (σ' : St) (w2 : Int32), T kX12_text cSi σ' 80 [(0, .ref 10), (2, .int w2)] [] (kb σ' w2)) (v2 : Int32) : T kX12_text cSi σ 80 [(0, .ref 10), (2, .int v2)] [] (fX12_text_L80 k1 kb σ v2) := by
  unfold fX12_text_L80
  refine T_iload_n (pc := 80) 1 dX12_text_80 rfl rfl ?_
  refine T_aload_n (pc := 81) 0 dX12_text_81 rfl rfl ?_
  refine T_getI (pc := 82) fd_10_7 hw1510 dX12_text_82 ?_
  refine T_icmp_ge (pc := 85) 115 dX12_text_85 (by decide) (fun _ => ?_) (fun _ => ?_)
  · refine T_pick (lv' := [(0, .ref 10)]) [0] rfl ?_
    exact hk1 σ
  · refine T_aload_n (pc := 88) 0 dX12_text_88 rfl rfl ?_
    refine T_getA (pc := 89) fd_10_2 hw1505 dX12_text_89 ?_
    refine T_sipush (pc := 92) (v := 200) dX12_text_92 (by decide) ?_
    refine T_aload_n (pc := 95) 0 dX12_text_95 rfl rfl ?_
    refine T_getI (pc := 96) fd_10_8 hw1511 dX12_text_96 ?_
    refine T_imul (pc := 99) dX12_text_99 ?_
    refine T_iload_n (pc := 100) 1 dX12_text_100 rfl rfl ?_
    refine T_iadd (pc := 101) dX12_text_101 ?_
    refine T_aload_n (pc := 102) 0 dX12_text_102 rfl rfl ?_
    refine T_getA (pc := 103) fd_10_1 hw1504 dX12_text_103 ?_
    refine T_iload_n (pc := 106) 1 dX12_text_106 rfl rfl ?_
    refine T_bald (pc := 107) rfl dX12_text_107 (fun x14 => ?_)
    refine T_bast (pc := 108) rfl dX12_text_108 ?_
    refine T_letS (fun s15 => ?_)
    refine T_iinc (pc := 109) (y := 1) (lv' := [(0, .ref 10), (2, .int (v2 + (1 : Int32)))]) 1 dX12_text_109 (by decide) rfl (Nat.le_of_ble_eq_true rfl) rfl ?_
    refine T_goto (pc := 112) 80 dX12_text_112 (by decide) ?_
    exact hkb s15 (v2 + (1 : Int32))
set_option maxRecDepth 100000 in
set_option maxHeartbeats 4000000 in
theorem fX12_text_P80_T (σ : St) {k1 : St → Option (Int32 × St)} (hk1 : ∀ (σ' : St), T kX12_text cSi σ' 115 [(0, .ref 10)] [] (k1 σ')) (v2 : Int32) : T kX12_text cSi σ 80 [(0, .ref 10), (2, .int v2)] [] (fX12_text_P80 k1 σ v2) :=
  it_T (S := (fun t : St × Int32 => t.1)) (lv := fun t : St × Int32 => [(0, .ref 10), (2, .int t.2)]) (st := fun _ => []) (fun kb hkb t => fX12_text_L80_T (hk1 := hk1) (hkb := fun σ v2 => hkb (σ, v2)) t.1 t.2) FU (σ, v2)
set_option maxRecDepth 100000 in
set_option maxHeartbeats 4000000 in
theorem fX12_text_J55_T (σ : St) (v1 : Int32) : T kX12_text cSi σ 55 [(0, .ref 10), (1, .int v1)] [] (fX12_text_J55 σ v1) := by
  unfold fX12_text_J55
  refine T_aload_n (pc := 55) 0 dX12_text_55 rfl rfl ?_
  refine T_iload_n (pc := 56) 1 dX12_text_56 rfl rfl ?_
  refine T_callSi (pc := 57) (rest := []) (Rn_V (pc := 57) (as := [.int v1]) (rest := []) (ctX12_fault σ v1) rfl rfl mv_X12_fault hw1844 rfl ⟨Nat.le_of_ble_eq_true rfl, Nat.le_of_ble_eq_true rfl⟩ (Nat.le_of_ble_eq_true rfl) dX12_text_57 rfl) rfl (fun r3 => ?_)
  refine T_iconst (pc := 60) (v := -1) dX12_text_60 (by decide) ?_
  refine T_icmp_eq (pc := 61) 66 dX12_text_61 (by decide) (fun _ => ?_) (fun _ => ?_)
  · refine T_iload_n (pc := 66) 1 dX12_text_66 rfl rfl ?_
    refine T_if_ne (pc := 67) 147 dX12_text_67 (by decide) (fun _ => ?_) (fun _ => ?_)
    · refine T_iload_n (pc := 147) 1 dX12_text_147 rfl rfl ?_
      refine T_iconst (pc := 148) (v := 1) dX12_text_148 (by decide) ?_
      refine T_icmp_ne (pc := 149) 182 dX12_text_149 (by decide) (fun _ => ?_) (fun _ => ?_)
      · refine T_iconst (pc := 182) (v := 0) dX12_text_182 (by decide) ?_
        refine T_istore_n (pc := 183) (lv' := [(0, .ref 10), (1, .int v1), (2, .int (0 : Int32))]) dX12_text_183 rfl (Nat.le_of_ble_eq_true rfl) rfl ?_
        refine T_pick (lv' := [(0, .ref 10), (2, .int (0 : Int32))]) [0, 2] rfl ?_
        refine fX12_text_P184_T (hk1 := fun s6 => ?_) r3.2 (0 : Int32)
        · refine T_aload_n (pc := 219) 0 dX12_text_219 rfl rfl ?_
          refine T_getA (pc := 220) fd_10_4 hw1507 dX12_text_220 ?_
          refine T_aload_n (pc := 223) 0 dX12_text_223 rfl rfl ?_
          refine T_getI (pc := 224) fd_10_10 hw1513 dX12_text_224 ?_
          refine T_aload_n (pc := 227) 0 dX12_text_227 rfl rfl ?_
          refine T_getI (pc := 228) fd_10_7 hw1510 dX12_text_228 ?_
          refine T_iast (pc := 231) rfl dX12_text_231 ?_
          refine T_letS (fun s7 => ?_)
          refine T_aload_n (pc := 232) 0 dX12_text_232 rfl rfl ?_
          refine T_iconst (pc := 233) (v := 0) dX12_text_233 (by decide) ?_
          refine T_putI (pc := 234) fd_10_7 hw1510 dX12_text_234 ?_
          refine T_letS (fun s8 => ?_)
          refine T_aload_n (pc := 237) 0 dX12_text_237 rfl rfl ?_
          refine T_dup_a (pc := 238) dX12_text_238 ?_
          refine T_getI (pc := 239) fd_10_10 hw1513 dX12_text_239 ?_
          refine T_iconst (pc := 242) (v := 1) dX12_text_242 (by decide) ?_
          refine T_iadd (pc := 243) dX12_text_243 ?_
          refine T_putI (pc := 244) fd_10_10 hw1513 dX12_text_244 ?_
          refine T_letS (fun s9 => ?_)
          refine T_aload_n (pc := 247) 0 dX12_text_247 rfl rfl ?_
          refine T_getI (pc := 248) fd_10_10 hw1513 dX12_text_248 ?_
          refine T_iconst (pc := 251) (v := 1) dX12_text_251 (by decide) ?_
          refine T_isub (pc := 252) dX12_text_252 ?_
          exact T_ireturn (pc := 253) rfl dX12_text_253 rfl
      · refine T_aload_n (pc := 152) 0 dX12_text_152 rfl rfl ?_
        refine T_aload_n (pc := 153) 0 dX12_text_153 rfl rfl ?_
        refine T_getI (pc := 154) fd_10_9 hw1512 dX12_text_154 ?_
        refine T_callSv (pc := 157) (rest := []) (Rn_V (pc := 157) (as := [.int (zI r3.2 33)]) (rest := []) (ctX12_readPlot r3.2 (zI r3.2 33)) rfl rfl mv_X12_readPlot hw1728 rfl ⟨Nat.le_of_ble_eq_true rfl, Nat.le_of_ble_eq_true rfl⟩ (Nat.le_of_ble_eq_true rfl) dX12_text_157 rfl) rfl (fun s10 => ?_)
        refine T_aload_n (pc := 160) 0 dX12_text_160 rfl rfl ?_
        refine T_iconst (pc := 161) (v := 0) dX12_text_161 (by decide) ?_
        refine T_putI (pc := 162) fd_10_7 hw1510 dX12_text_162 ?_
        refine T_letS (fun s11 => ?_)
        refine T_aload_n (pc := 165) 0 dX12_text_165 rfl rfl ?_
        refine T_dup_a (pc := 166) dX12_text_166 ?_
        refine T_getI (pc := 167) fd_10_9 hw1512 dX12_text_167 ?_
        refine T_iconst (pc := 170) (v := 1) dX12_text_170 (by decide) ?_
        refine T_iadd (pc := 171) dX12_text_171 ?_
        refine T_putI (pc := 172) fd_10_9 hw1512 dX12_text_172 ?_
        refine T_letS (fun s12 => ?_)
        refine T_aload_n (pc := 175) 0 dX12_text_175 rfl rfl ?_
        refine T_getI (pc := 176) fd_10_9 hw1512 dX12_text_176 ?_
        refine T_iconst (pc := 179) (v := 1) dX12_text_179 (by decide) ?_
        refine T_isub (pc := 180) dX12_text_180 ?_
        exact T_ireturn (pc := 181) rfl dX12_text_181 rfl
    · refine T_aload_n (pc := 70) 0 dX12_text_70 rfl rfl ?_
      refine T_aload_n (pc := 71) 0 dX12_text_71 rfl rfl ?_
      refine T_getI (pc := 72) fd_10_8 hw1511 dX12_text_72 ?_
      refine T_callSv (pc := 75) (rest := []) (Rn_V (pc := 75) (as := [.int (zI r3.2 32)]) (rest := []) (ctX12_readRoll r3.2 (zI r3.2 32)) rfl rfl mv_X12_readRoll hw1692 rfl ⟨Nat.le_of_ble_eq_true rfl, Nat.le_of_ble_eq_true rfl⟩ (Nat.le_of_ble_eq_true rfl) dX12_text_75 rfl) rfl (fun s13 => ?_)
      refine T_iconst (pc := 78) (v := 0) dX12_text_78 (by decide) ?_
      refine T_istore_n (pc := 79) (lv' := [(0, .ref 10), (1, .int v1), (2, .int (0 : Int32))]) dX12_text_79 rfl (Nat.le_of_ble_eq_true rfl) rfl ?_
      refine T_pick (lv' := [(0, .ref 10), (2, .int (0 : Int32))]) [0, 2] rfl ?_
      refine fX12_text_P80_T (hk1 := fun s16 => ?_) s13 (0 : Int32)
      · refine T_aload_n (pc := 115) 0 dX12_text_115 rfl rfl ?_
        refine T_getA (pc := 116) fd_10_30 hw1533 dX12_text_116 ?_
        refine T_aload_n (pc := 119) 0 dX12_text_119 rfl rfl ?_
        refine T_getI (pc := 120) fd_10_8 hw1511 dX12_text_120 ?_
        refine T_iconst (pc := 123) (v := -1) dX12_text_123 (by decide) ?_
        refine T_iast (pc := 124) rfl dX12_text_124 ?_
        refine T_letS (fun s17 => ?_)
        refine T_aload_n (pc := 125) 0 dX12_text_125 rfl rfl ?_
        refine T_iconst (pc := 126) (v := 0) dX12_text_126 (by decide) ?_
        refine T_putI (pc := 127) fd_10_7 hw1510 dX12_text_127 ?_
        refine T_letS (fun s18 => ?_)
        refine T_aload_n (pc := 130) 0 dX12_text_130 rfl rfl ?_
        refine T_dup_a (pc := 131) dX12_text_131 ?_
        refine T_getI (pc := 132) fd_10_8 hw1511 dX12_text_132 ?_
        refine T_iconst (pc := 135) (v := 1) dX12_text_135 (by decide) ?_
        refine T_iadd (pc := 136) dX12_text_136 ?_
        refine T_putI (pc := 137) fd_10_8 hw1511 dX12_text_137 ?_
        refine T_letS (fun s19 => ?_)
        refine T_aload_n (pc := 140) 0 dX12_text_140 rfl rfl ?_
        refine T_getI (pc := 141) fd_10_8 hw1511 dX12_text_141 ?_
        refine T_iconst (pc := 144) (v := 1) dX12_text_144 (by decide) ?_
        refine T_isub (pc := 145) dX12_text_145 ?_
        exact T_ireturn (pc := 146) rfl dX12_text_146 rfl
  · refine T_iconst (pc := 64) (v := -1) dX12_text_64 (by decide) ?_
    exact T_ireturn (pc := 65) rfl dX12_text_65 rfl
set_option maxRecDepth 100000 in
set_option maxHeartbeats 4000000 in
theorem ctX12_text (σ : St) (p0 : Int32) : Ct yX12_text kX12_text [.ref 10, .int p0] σ cSi (fX12_text σ p0) := by
  refine Ct.of (by decide +kernel) rfl rfl (Nat.le_of_ble_eq_true rfl) ?_
  unfold fX12_text
  show T _ _ _ 0 [(0, .ref 10), (1, .int p0)] [] _
  refine T_aload_n (pc := 0) 0 dX12_text_0 rfl rfl ?_
  refine T_iconst (pc := 1) (v := 0) dX12_text_1 (by decide) ?_
  refine T_putI (pc := 2) fd_10_0 hw1503 dX12_text_2 ?_
  refine T_letS (fun s1 => ?_)
  refine T_iload_n (pc := 5) 1 dX12_text_5 rfl rfl ?_
  refine T_iconst (pc := 6) (v := 0) dX12_text_6 (by decide) ?_
  refine T_iconst (pc := 7) (v := 2) dX12_text_7 (by decide) ?_
  refine T_callPz (pc := 8) (rest := []) (Rn_S (pc := 8) (as := [.int p0, .int (0 : Int32), .int (2 : Int32)]) (rest := []) (ctX12_isIn s1 p0 (0 : Int32) (2 : Int32)) ms_X12_isIn hw1689 rfl ⟨Nat.le_of_ble_eq_true rfl, Nat.le_of_ble_eq_true rfl⟩ (Nat.le_of_ble_eq_true rfl) dX12_text_8 rfl) rfl (fun x2 => ?_)
  refine T_if_eq (pc := 11) 53 dX12_text_11 (by decide) (fun _ => ?_) (fun _ => ?_)
  · refine T_iconst (pc := 53) (v := -1) dX12_text_53 (by decide) ?_
    exact T_ireturn (pc := 54) rfl dX12_text_54 rfl
  · refine T_iload_n (pc := 14) 1 dX12_text_14 rfl rfl ?_
    refine T_if_ne (pc := 15) 27 dX12_text_15 (by decide) (fun _ => ?_) (fun _ => ?_)
    · refine T_iload_n (pc := 27) 1 dX12_text_27 rfl rfl ?_
      refine T_iconst (pc := 28) (v := 1) dX12_text_28 (by decide) ?_
      refine T_icmp_ne (pc := 29) 40 dX12_text_29 (by decide) (fun _ => ?_) (fun _ => ?_)
      · refine T_iload_n (pc := 40) 1 dX12_text_40 rfl rfl ?_
        refine T_iconst (pc := 41) (v := 2) dX12_text_41 (by decide) ?_
        refine T_icmp_ne (pc := 42) 55 dX12_text_42 (by decide) (fun _ => ?_) (fun _ => ?_)
        · exact fX12_text_J55_T s1 p0
        · refine T_aload_n (pc := 45) 0 dX12_text_45 rfl rfl ?_
          refine T_getI (pc := 46) fd_10_10 hw1513 dX12_text_46 ?_
          refine T_iconst (pc := 49) (v := 4) dX12_text_49 (by decide) ?_
          refine T_icmp_ne (pc := 50) 55 dX12_text_50 (by decide) (fun _ => ?_) (fun _ => ?_)
          · exact fX12_text_J55_T s1 p0
          · refine T_iconst (pc := 53) (v := -1) dX12_text_53 (by decide) ?_
            exact T_ireturn (pc := 54) rfl dX12_text_54 rfl
      · refine T_aload_n (pc := 32) 0 dX12_text_32 rfl rfl ?_
        refine T_getI (pc := 33) fd_10_9 hw1512 dX12_text_33 ?_
        refine T_iconst (pc := 36) (v := 4) dX12_text_36 (by decide) ?_
        refine T_icmp_eq (pc := 37) 53 dX12_text_37 (by decide) (fun _ => ?_) (fun _ => ?_)
        · refine T_iconst (pc := 53) (v := -1) dX12_text_53 (by decide) ?_
          exact T_ireturn (pc := 54) rfl dX12_text_54 rfl
        · refine T_iload_n (pc := 40) 1 dX12_text_40 rfl rfl ?_
          refine T_iconst (pc := 41) (v := 2) dX12_text_41 (by decide) ?_
          refine T_icmp_ne (pc := 42) 55 dX12_text_42 (by decide) (fun _ => ?_) (fun _ => ?_)
          · exact fX12_text_J55_T s1 p0
          · refine T_aload_n (pc := 45) 0 dX12_text_45 rfl rfl ?_
            refine T_getI (pc := 46) fd_10_10 hw1513 dX12_text_46 ?_
            refine T_iconst (pc := 49) (v := 4) dX12_text_49 (by decide) ?_
            refine T_icmp_ne (pc := 50) 55 dX12_text_50 (by decide) (fun _ => ?_) (fun _ => ?_)
            · exact fX12_text_J55_T s1 p0
            · refine T_iconst (pc := 53) (v := -1) dX12_text_53 (by decide) ?_
              exact T_ireturn (pc := 54) rfl dX12_text_54 rfl
    · refine T_aload_n (pc := 18) 0 dX12_text_18 rfl rfl ?_
      refine T_getI (pc := 19) fd_10_8 hw1511 dX12_text_19 ?_
      refine T_bipush (pc := 22) (v := 8) dX12_text_22 (by decide) ?_
      refine T_icmp_eq (pc := 24) 53 dX12_text_24 (by decide) (fun _ => ?_) (fun _ => ?_)
      · refine T_iconst (pc := 53) (v := -1) dX12_text_53 (by decide) ?_
        exact T_ireturn (pc := 54) rfl dX12_text_54 rfl
      · refine T_iload_n (pc := 27) 1 dX12_text_27 rfl rfl ?_
        refine T_iconst (pc := 28) (v := 1) dX12_text_28 (by decide) ?_
        refine T_icmp_ne (pc := 29) 40 dX12_text_29 (by decide) (fun _ => ?_) (fun _ => ?_)
        · refine T_iload_n (pc := 40) 1 dX12_text_40 rfl rfl ?_
          refine T_iconst (pc := 41) (v := 2) dX12_text_41 (by decide) ?_
          refine T_icmp_ne (pc := 42) 55 dX12_text_42 (by decide) (fun _ => ?_) (fun _ => ?_)
          · exact fX12_text_J55_T s1 p0
          · refine T_aload_n (pc := 45) 0 dX12_text_45 rfl rfl ?_
            refine T_getI (pc := 46) fd_10_10 hw1513 dX12_text_46 ?_
            refine T_iconst (pc := 49) (v := 4) dX12_text_49 (by decide) ?_
            refine T_icmp_ne (pc := 50) 55 dX12_text_50 (by decide) (fun _ => ?_) (fun _ => ?_)
            · exact fX12_text_J55_T s1 p0
            · refine T_iconst (pc := 53) (v := -1) dX12_text_53 (by decide) ?_
              exact T_ireturn (pc := 54) rfl dX12_text_54 rfl
        · refine T_aload_n (pc := 32) 0 dX12_text_32 rfl rfl ?_
          refine T_getI (pc := 33) fd_10_9 hw1512 dX12_text_33 ?_
          refine T_iconst (pc := 36) (v := 4) dX12_text_36 (by decide) ?_
          refine T_icmp_eq (pc := 37) 53 dX12_text_37 (by decide) (fun _ => ?_) (fun _ => ?_)
          · refine T_iconst (pc := 53) (v := -1) dX12_text_53 (by decide) ?_
            exact T_ireturn (pc := 54) rfl dX12_text_54 rfl
          · refine T_iload_n (pc := 40) 1 dX12_text_40 rfl rfl ?_
            refine T_iconst (pc := 41) (v := 2) dX12_text_41 (by decide) ?_
            refine T_icmp_ne (pc := 42) 55 dX12_text_42 (by decide) (fun _ => ?_) (fun _ => ?_)
            · exact fX12_text_J55_T s1 p0
            · refine T_aload_n (pc := 45) 0 dX12_text_45 rfl rfl ?_
              refine T_getI (pc := 46) fd_10_10 hw1513 dX12_text_46 ?_
              refine T_iconst (pc := 49) (v := 4) dX12_text_49 (by decide) ?_
              refine T_icmp_ne (pc := 50) 55 dX12_text_50 (by decide) (fun _ => ?_) (fun _ => ?_)
              · exact fX12_text_J55_T s1 p0
              · refine T_iconst (pc := 53) (v := -1) dX12_text_53 (by decide) ?_
                exact T_ireturn (pc := 54) rfl dX12_text_54 rfl
set_option maxRecDepth 100000 in
set_option maxHeartbeats 4000000 in
theorem ctX12_thrown (σ : St) : Ct yX12_thrown kX12_thrown [.ref 10] σ (cPi σ) (fX12_thrown σ) := by
  refine Ct.of (by decide +kernel) rfl rfl (Nat.le_of_ble_eq_true rfl) ?_
  unfold fX12_thrown
  show T _ _ _ 0 [(0, .ref 10)] [] _
  refine T_aload_n (pc := 0) 0 dX12_thrown_0 rfl rfl ?_
  refine T_getI (pc := 1) fd_10_0 hw1503 dX12_thrown_1 ?_
  exact T_ireturn (pc := 4) rfl dX12_thrown_4 rfl
set_option maxRecDepth 100000 in
set_option maxHeartbeats 4000000 in
theorem fX12_worth_L28_T (v1 : Int32) (v2 : Int32) (σ : St) {kb : St → Int32 → Int32 → Option (Int32 × St)} (hkb : ∀ (σ' : St) (w3 : Int32) (w4 : Int32), T kX12_worth cSi σ' 28 [(0, .ref 10), (1, .int v1), (2, .int v2), (3, .int w3), (4, .int w4)] [] (kb σ' w3 w4)) (v3 : Int32) (v4 : Int32) : T kX12_worth cSi σ 28 [(0, .ref 10), (1, .int v1), (2, .int v2), (3, .int v3), (4, .int v4)] [] (fX12_worth_L28 v1 v2 kb σ v3 v4) := by
  unfold fX12_worth_L28
  refine T_iload (pc := 28) 4 dX12_worth_28 rfl ?_
  refine T_aload_n (pc := 30) 0 dX12_worth_30 rfl rfl ?_
  refine T_getA (pc := 31) fd_10_21 hw1524 dX12_worth_31 ?_
  refine T_iload_n (pc := 34) 1 dX12_worth_34 rfl rfl ?_
  refine T_iald (pc := 35) rfl dX12_worth_35 (fun x4 => ?_)
  refine T_icmp_ge (pc := 36) 124 dX12_worth_36 (by decide) (fun _ => ?_) (fun _ => ?_)
  · refine T_iload_n (pc := 124) 3 dX12_worth_124 rfl rfl ?_
    exact T_ireturn (pc := 125) rfl dX12_worth_125 rfl
  · refine T_bipush (pc := 39) (v := 12) dX12_worth_39 (by decide) ?_
    refine T_bipush (pc := 41) (v := 16) dX12_worth_41 (by decide) ?_
    refine T_iload_n (pc := 43) 1 dX12_worth_43 rfl rfl ?_
    refine T_imul (pc := 44) dX12_worth_44 ?_
    refine T_iload (pc := 45) 4 dX12_worth_45 rfl ?_
    refine T_iadd (pc := 47) dX12_worth_47 ?_
    refine T_imul (pc := 48) dX12_worth_48 ?_
    refine T_aload_n (pc := 49) 0 dX12_worth_49 rfl rfl ?_
    refine T_getA (pc := 50) fd_10_23 hw1526 dX12_worth_50 ?_
    refine T_bipush (pc := 53) (v := 16) dX12_worth_53 (by decide) ?_
    refine T_iload_n (pc := 55) 1 dX12_worth_55 rfl rfl ?_
    refine T_imul (pc := 56) dX12_worth_56 ?_
    refine T_iload (pc := 57) 4 dX12_worth_57 rfl ?_
    refine T_iadd (pc := 59) dX12_worth_59 ?_
    refine T_iald (pc := 60) rfl dX12_worth_60 (fun x5 => ?_)
    refine T_iadd (pc := 61) dX12_worth_61 ?_
    refine T_iconst (pc := 62) (v := 1) dX12_worth_62 (by decide) ?_
    refine T_isub (pc := 63) dX12_worth_63 ?_
    refine T_letI (fun x6 => ?_)
    refine T_istore (pc := 64) (lv' := [(0, .ref 10), (1, .int v1), (2, .int v2), (3, .int v3), (4, .int v4), (5, .int x6)]) dX12_worth_64 (Nat.le_of_ble_eq_true rfl) rfl ?_
    refine T_iload_n (pc := 66) 3 dX12_worth_66 rfl rfl ?_
    refine T_aload_n (pc := 67) 0 dX12_worth_67 rfl rfl ?_
    refine T_iload_n (pc := 68) 2 dX12_worth_68 rfl rfl ?_
    refine T_iload_n (pc := 69) 1 dX12_worth_69 rfl rfl ?_
    refine T_aload_n (pc := 70) 0 dX12_worth_70 rfl rfl ?_
    refine T_getA (pc := 71) fd_10_26 hw1529 dX12_worth_71 ?_
    refine T_iload (pc := 74) 5 dX12_worth_74 rfl ?_
    refine T_iald (pc := 76) rfl dX12_worth_76 (fun x7 => ?_)
    refine T_aload_n (pc := 77) 0 dX12_worth_77 rfl rfl ?_
    refine T_getA (pc := 78) fd_10_27 hw1530 dX12_worth_78 ?_
    refine T_iload (pc := 81) 5 dX12_worth_81 rfl ?_
    refine T_iald (pc := 83) rfl dX12_worth_83 (fun x8 => ?_)
    refine T_aload_n (pc := 84) 0 dX12_worth_84 rfl rfl ?_
    refine T_getA (pc := 85) fd_10_23 hw1526 dX12_worth_85 ?_
    refine T_bipush (pc := 88) (v := 16) dX12_worth_88 (by decide) ?_
    refine T_iload_n (pc := 90) 1 dX12_worth_90 rfl rfl ?_
    refine T_imul (pc := 91) dX12_worth_91 ?_
    refine T_iload (pc := 92) 4 dX12_worth_92 rfl ?_
    refine T_iadd (pc := 94) dX12_worth_94 ?_
    refine T_iald (pc := 95) rfl dX12_worth_95 (fun x9 => ?_)
    refine T_iconst (pc := 96) (v := 1) dX12_worth_96 (by decide) ?_
    refine T_icmp_le (pc := 97) 112 dX12_worth_97 (by decide) (fun _ => ?_) (fun _ => ?_)
    · refine T_iconst (pc := 112) (v := 0) dX12_worth_112 (by decide) ?_
      refine T_callSi (pc := 113) (rest := [.int v3]) (Rn_V (pc := 113) (as := [.int v2, .int v1, .int x7, .int x8, .int (0 : Int32)]) (rest := [.int v3]) (ctX12_worthOf σ v2 v1 x7 x8 (0 : Int32)) rfl rfl mv_X12_worthOf hw2112 rfl ⟨Nat.le_of_ble_eq_true rfl, Nat.le_of_ble_eq_true rfl⟩ (Nat.le_of_ble_eq_true rfl) dX12_worth_113 rfl) rfl (fun r10 => ?_)
      refine T_iadd (pc := 116) dX12_worth_116 ?_
      refine T_letI (fun x11 => ?_)
      refine T_istore_n (pc := 117) (lv' := [(0, .ref 10), (1, .int v1), (2, .int v2), (3, .int x11), (4, .int v4), (5, .int x6)]) dX12_worth_117 rfl (Nat.le_of_ble_eq_true rfl) rfl ?_
      refine T_iinc (pc := 118) (y := 1) (lv' := [(0, .ref 10), (1, .int v1), (2, .int v2), (3, .int x11), (4, .int (v4 + (1 : Int32))), (5, .int x6)]) 4 dX12_worth_118 (by decide) rfl (Nat.le_of_ble_eq_true rfl) rfl ?_
      refine T_goto (pc := 121) 28 dX12_worth_121 (by decide) ?_
      refine T_pick (lv' := [(0, .ref 10), (1, .int v1), (2, .int v2), (3, .int x11), (4, .int (v4 + (1 : Int32)))]) [0, 1, 2, 3, 4] rfl ?_
      exact hkb r10.2 x11 (v4 + (1 : Int32))
    · refine T_aload_n (pc := 100) 0 dX12_worth_100 rfl rfl ?_
      refine T_getA (pc := 101) fd_10_27 hw1530 dX12_worth_101 ?_
      refine T_iload (pc := 104) 5 dX12_worth_104 rfl ?_
      refine T_iconst (pc := 106) (v := 1) dX12_worth_106 (by decide) ?_
      refine T_isub (pc := 107) dX12_worth_107 ?_
      refine T_iald (pc := 108) rfl dX12_worth_108 (fun x12 => ?_)
      refine T_goto (pc := 109) 113 dX12_worth_109 (by decide) ?_
      refine T_callSi (pc := 113) (rest := [.int v3]) (Rn_V (pc := 113) (as := [.int v2, .int v1, .int x7, .int x8, .int x12]) (rest := [.int v3]) (ctX12_worthOf σ v2 v1 x7 x8 x12) rfl rfl mv_X12_worthOf hw2112 rfl ⟨Nat.le_of_ble_eq_true rfl, Nat.le_of_ble_eq_true rfl⟩ (Nat.le_of_ble_eq_true rfl) dX12_worth_113 rfl) rfl (fun r13 => ?_)
      refine T_iadd (pc := 116) dX12_worth_116 ?_
      refine T_letI (fun x14 => ?_)
      refine T_istore_n (pc := 117) (lv' := [(0, .ref 10), (1, .int v1), (2, .int v2), (3, .int x14), (4, .int v4), (5, .int x6)]) dX12_worth_117 rfl (Nat.le_of_ble_eq_true rfl) rfl ?_
      refine T_iinc (pc := 118) (y := 1) (lv' := [(0, .ref 10), (1, .int v1), (2, .int v2), (3, .int x14), (4, .int (v4 + (1 : Int32))), (5, .int x6)]) 4 dX12_worth_118 (by decide) rfl (Nat.le_of_ble_eq_true rfl) rfl ?_
      refine T_goto (pc := 121) 28 dX12_worth_121 (by decide) ?_
      refine T_pick (lv' := [(0, .ref 10), (1, .int v1), (2, .int v2), (3, .int x14), (4, .int (v4 + (1 : Int32)))]) [0, 1, 2, 3, 4] rfl ?_
      exact hkb r13.2 x14 (v4 + (1 : Int32))
set_option maxRecDepth 100000 in
set_option maxHeartbeats 4000000 in
theorem fX12_worth_P28_T (v1 : Int32) (v2 : Int32) (σ : St) (v3 : Int32) (v4 : Int32) : T kX12_worth cSi σ 28 [(0, .ref 10), (1, .int v1), (2, .int v2), (3, .int v3), (4, .int v4)] [] (fX12_worth_P28 v1 v2 σ v3 v4) :=
  it_T (S := (fun t : St × Int32 × Int32 => t.1)) (lv := fun t : St × Int32 × Int32 => [(0, .ref 10), (1, .int v1), (2, .int v2), (3, .int t.2.1), (4, .int t.2.2)]) (st := fun _ => []) (fun kb hkb t => fX12_worth_L28_T v1 v2 (hkb := fun σ v3 v4 => hkb (σ, v3, v4)) t.1 t.2.1 t.2.2) FU (σ, v3, v4)
set_option maxRecDepth 100000 in
set_option maxHeartbeats 4000000 in
theorem ctX12_worth (σ : St) (p0 : Int32) (p1 : Int32) : Ct yX12_worth kX12_worth [.ref 10, .int p0, .int p1] σ cSi (fX12_worth σ p0 p1) := by
  refine Ct.of (by decide +kernel) rfl rfl (Nat.le_of_ble_eq_true rfl) ?_
  unfold fX12_worth
  show T _ _ _ 0 [(0, .ref 10), (1, .int p0), (2, .int p1)] [] _
  refine T_aload_n (pc := 0) 0 dX12_worth_0 rfl rfl ?_
  refine T_iconst (pc := 1) (v := 0) dX12_worth_1 (by decide) ?_
  refine T_putI (pc := 2) fd_10_0 hw1503 dX12_worth_2 ?_
  refine T_letS (fun s1 => ?_)
  refine T_aload_n (pc := 5) 0 dX12_worth_5 rfl rfl ?_
  refine T_iload_n (pc := 6) 1 dX12_worth_6 rfl rfl ?_
  refine T_callPz (pc := 7) (rest := []) (Rn_V (pc := 7) (as := [.int p0]) (rest := []) (ctX12_isRoll s1 p0) rfl rfl mv_X12_isRoll hw1853 rfl ⟨Nat.le_of_ble_eq_true rfl, Nat.le_of_ble_eq_true rfl⟩ (Nat.le_of_ble_eq_true rfl) dX12_worth_7 rfl) rfl (fun x2 => ?_)
  refine T_if_eq (pc := 10) 21 dX12_worth_10 (by decide) (fun _ => ?_) (fun _ => ?_)
  · refine T_iconst (pc := 21) (v := -1) dX12_worth_21 (by decide) ?_
    exact T_ireturn (pc := 22) rfl dX12_worth_22 rfl
  · refine T_aload_n (pc := 13) 0 dX12_worth_13 rfl rfl ?_
    refine T_iload_n (pc := 14) 2 dX12_worth_14 rfl rfl ?_
    refine T_callPz (pc := 15) (rest := []) (Rn_V (pc := 15) (as := [.int p1]) (rest := []) (ctX12_isHabit s1 p1) rfl rfl mv_X12_isHabit hw2104 rfl ⟨Nat.le_of_ble_eq_true rfl, Nat.le_of_ble_eq_true rfl⟩ (Nat.le_of_ble_eq_true rfl) dX12_worth_15 rfl) rfl (fun x3 => ?_)
    refine T_if_ne (pc := 18) 23 dX12_worth_18 (by decide) (fun _ => ?_) (fun _ => ?_)
    · refine T_iconst (pc := 23) (v := 0) dX12_worth_23 (by decide) ?_
      refine T_istore_n (pc := 24) (lv' := [(0, .ref 10), (1, .int p0), (2, .int p1), (3, .int (0 : Int32))]) dX12_worth_24 rfl (Nat.le_of_ble_eq_true rfl) rfl ?_
      refine T_iconst (pc := 25) (v := 0) dX12_worth_25 (by decide) ?_
      refine T_istore (pc := 26) (lv' := [(0, .ref 10), (1, .int p0), (2, .int p1), (3, .int (0 : Int32)), (4, .int (0 : Int32))]) dX12_worth_26 (Nat.le_of_ble_eq_true rfl) rfl ?_
      exact fX12_worth_P28_T p0 p1 s1 (0 : Int32) (0 : Int32)
    · refine T_iconst (pc := 21) (v := -1) dX12_worth_21 (by decide) ?_
      exact T_ireturn (pc := 22) rfl dX12_worth_22 rfl
