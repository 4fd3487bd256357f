/-! methods X12_lowestReady .. X12_kinds: by program (wip/gen) -/
set_option maxRecDepth 100000 in
set_option maxHeartbeats 4000000 in
theorem fX12_lowestReady_L2_T (σ : St) {kb : Int32 → Option Int32} (hkb : ∀ (w1 : Int32), T kX12_lowestReady (cPi σ) σ 2 [(0, .ref 10), (1, .int w1)] [] (kb w1)) (v1 : Int32) : T kX12_lowestReady (cPi σ) σ 2 [(0, .ref 10), (1, .int v1)] [] (fX12_lowestReady_L2 kb σ v1) := by
  unfold fX12_lowestReady_L2
  refine T_iload_n (pc := 2) 1 dX12_lowestReady_2 rfl rfl ?_
  refine T_aload_n (pc := 3) 0 dX12_lowestReady_3 rfl rfl ?_
  refine T_getI (pc := 4) fd_10_8 hw1511 dX12_lowestReady_4 ?_
  refine T_icmp_ge (pc := 7) 27 dX12_lowestReady_7 (by decide) (fun _ => ?_) (fun _ => ?_)
  · refine T_iconst (pc := 27) (v := -1) dX12_lowestReady_27 (by decide) ?_
    exact T_ireturn (pc := 28) rfl dX12_lowestReady_28 rfl
  · refine T_aload_n (pc := 10) 0 dX12_lowestReady_10 rfl rfl ?_
    refine T_getA (pc := 11) fd_10_47 hw1550 dX12_lowestReady_11 ?_
    refine T_iload_n (pc := 14) 1 dX12_lowestReady_14 rfl rfl ?_
    refine T_zald (pc := 15) rfl dX12_lowestReady_15 (fun x1 => ?_)
    refine T_if_eq (pc := 16) 21 dX12_lowestReady_16 (by decide) (fun _ => ?_) (fun _ => ?_)
    · refine T_iinc (pc := 21) (y := 1) (lv' := [(0, .ref 10), (1, .int (v1 + (1 : Int32)))]) 1 dX12_lowestReady_21 (by decide) rfl (Nat.le_of_ble_eq_true rfl) rfl ?_
      refine T_goto (pc := 24) 2 dX12_lowestReady_24 (by decide) ?_
      exact hkb (v1 + (1 : Int32))
    · refine T_iload_n (pc := 19) 1 dX12_lowestReady_19 rfl rfl ?_
      exact T_ireturn (pc := 20) rfl dX12_lowestReady_20 rfl
set_option maxRecDepth 100000 in
set_option maxHeartbeats 4000000 in
theorem fX12_lowestReady_P2_T (σ : St) (v1 : Int32) : T kX12_lowestReady (cPi σ) σ 2 [(0, .ref 10), (1, .int v1)] [] (fX12_lowestReady_P2 σ v1) :=
  it_T (S := (fun _ : Int32 => σ)) (lv := fun t : Int32 => [(0, .ref 10), (1, .int t)]) (st := fun _ => []) (fun kb hkb t => fX12_lowestReady_L2_T (hkb := fun v1 => hkb v1) σ t) FU v1
set_option maxRecDepth 100000 in
set_option maxHeartbeats 4000000 in
theorem ctX12_lowestReady (σ : St) : Ct yX12_lowestReady kX12_lowestReady [.ref 10] σ (cPi σ) (fX12_lowestReady σ) := by
  refine Ct.of (by decide +kernel) rfl rfl (Nat.le_of_ble_eq_true rfl) ?_
  unfold fX12_lowestReady
  show T _ _ _ 0 [(0, .ref 10)] [] _
  refine T_iconst (pc := 0) (v := 0) dX12_lowestReady_0 (by decide) ?_
  refine T_istore_n (pc := 1) (lv' := [(0, .ref 10), (1, .int (0 : Int32))]) dX12_lowestReady_1 rfl (Nat.le_of_ble_eq_true rfl) rfl ?_
  exact fX12_lowestReady_P2_T σ (0 : Int32)
set_option maxRecDepth 100000 in
set_option maxHeartbeats 4000000 in
theorem fX12_goRehearsal_L7_T (v1 : Int32) (σ : St) {k1 : St → Option St} {kb : St → Int32 → Option St} (hk1 : ∀ (σ' : St), T kX12_goRehearsal cSv σ' 59 [(0, .ref 10), (1, .int v1)] [] (k1 σ')) (hkb : ∀ (σ' : St) (w2 : Int32), T kX12_goRehearsal cSv σ' 7 [(0, .ref 10), (1, .int v1), (2, .int w2)] [] (kb σ' w2)) (v2 : Int32) : T kX12_goRehearsal cSv σ 7 [(0, .ref 10), (1, .int v1), (2, .int v2)] [] (fX12_goRehearsal_L7 v1 k1 kb σ v2) := by
  unfold fX12_goRehearsal_L7
  refine T_iload_n (pc := 7) 2 dX12_goRehearsal_7 rfl rfl ?_
  refine T_aload_n (pc := 8) 0 dX12_goRehearsal_8 rfl rfl ?_
  refine T_getI (pc := 9) fd_10_8 hw1511 dX12_goRehearsal_9 ?_
  refine T_icmp_ge (pc := 12) 59 dX12_goRehearsal_12 (by decide) (fun _ => ?_) (fun _ => ?_)
  · refine T_pick (lv' := [(0, .ref 10), (1, .int v1)]) [0, 1] rfl ?_
    exact hk1 σ
  · refine T_aload_n (pc := 15) 0 dX12_goRehearsal_15 rfl rfl ?_
    refine T_getA (pc := 16) fd_10_46 hw1549 dX12_goRehearsal_16 ?_
    refine T_iload_n (pc := 19) 2 dX12_goRehearsal_19 rfl rfl ?_
    refine T_iconst (pc := 20) (v := 0) dX12_goRehearsal_20 (by decide) ?_
    refine T_iast (pc := 21) rfl dX12_goRehearsal_21 ?_
    refine T_letS (fun s2 => ?_)
    refine T_aload_n (pc := 22) 0 dX12_goRehearsal_22 rfl rfl ?_
    refine T_getA (pc := 23) fd_10_47 hw1550 dX12_goRehearsal_23 ?_
    refine T_iload_n (pc := 26) 2 dX12_goRehearsal_26 rfl rfl ?_
    refine T_iload_n (pc := 27) 1 dX12_goRehearsal_27 rfl rfl ?_
    refine T_iload_n (pc := 28) 2 dX12_goRehearsal_28 rfl rfl ?_
    refine T_callPz (pc := 29) (rest := [.int v2, .ref 81]) (Rn_S (pc := 29) (as := [.int v1, .int v2]) (rest := [.int v2, .ref 81]) (ctX12_has s2 v1 v2) ms_X12_has hw1732 rfl ⟨Nat.le_of_ble_eq_true rfl, Nat.le_of_ble_eq_true rfl⟩ (Nat.le_of_ble_eq_true rfl) dX12_goRehearsal_29 rfl) rfl (fun x3 => ?_)
    refine T_if_eq (pc := 32) 51 dX12_goRehearsal_32 (by decide) (fun _ => ?_) (fun _ => ?_)
    · refine T_iconst (pc := 51) (v := 0) dX12_goRehearsal_51 (by decide) ?_
      refine T_zast (pc := 52) rfl dX12_goRehearsal_52 ?_
      refine T_letS (fun s4 => ?_)
      refine T_iinc (pc := 53) (y := 1) (lv' := [(0, .ref 10), (1, .int v1), (2, .int (v2 + (1 : Int32)))]) 2 dX12_goRehearsal_53 (by decide) rfl (Nat.le_of_ble_eq_true rfl) rfl ?_
      refine T_goto (pc := 56) 7 dX12_goRehearsal_56 (by decide) ?_
      exact hkb s4 (v2 + (1 : Int32))
    · refine T_aload_n (pc := 35) 0 dX12_goRehearsal_35 rfl rfl ?_
      refine T_getA (pc := 36) fd_10_22 hw1525 dX12_goRehearsal_36 ?_
      refine T_bipush (pc := 39) (v := 16) dX12_goRehearsal_39 (by decide) ?_
      refine T_iload_n (pc := 41) 2 dX12_goRehearsal_41 rfl rfl ?_
      refine T_imul (pc := 42) dX12_goRehearsal_42 ?_
      refine T_iald (pc := 43) rfl dX12_goRehearsal_43 (fun x5 => ?_)
      refine T_if_ne (pc := 44) 51 dX12_goRehearsal_44 (by decide) (fun _ => ?_) (fun _ => ?_)
      · refine T_iconst (pc := 51) (v := 0) dX12_goRehearsal_51 (by decide) ?_
        refine T_zast (pc := 52) rfl dX12_goRehearsal_52 ?_
        refine T_letS (fun s6 => ?_)
        refine T_iinc (pc := 53) (y := 1) (lv' := [(0, .ref 10), (1, .int v1), (2, .int (v2 + (1 : Int32)))]) 2 dX12_goRehearsal_53 (by decide) rfl (Nat.le_of_ble_eq_true rfl) rfl ?_
        refine T_goto (pc := 56) 7 dX12_goRehearsal_56 (by decide) ?_
        exact hkb s6 (v2 + (1 : Int32))
      · refine T_iconst (pc := 47) (v := 1) dX12_goRehearsal_47 (by decide) ?_
        refine T_goto (pc := 48) 52 dX12_goRehearsal_48 (by decide) ?_
        refine T_zast (pc := 52) rfl dX12_goRehearsal_52 ?_
        refine T_letS (fun s7 => ?_)
        refine T_iinc (pc := 53) (y := 1) (lv' := [(0, .ref 10), (1, .int v1), (2, .int (v2 + (1 : Int32)))]) 2 dX12_goRehearsal_53 (by decide) rfl (Nat.le_of_ble_eq_true rfl) rfl ?_
        refine T_goto (pc := 56) 7 dX12_goRehearsal_56 (by decide) ?_
        exact hkb s7 (v2 + (1 : Int32))
set_option maxRecDepth 100000 in
set_option maxHeartbeats 4000000 in
theorem fX12_goRehearsal_P7_T (v1 : Int32) (σ : St) {k1 : St → Option St} (hk1 : ∀ (σ' : St), T kX12_goRehearsal cSv σ' 59 [(0, .ref 10), (1, .int v1)] [] (k1 σ')) (v2 : Int32) : T kX12_goRehearsal cSv σ 7 [(0, .ref 10), (1, .int v1), (2, .int v2)] [] (fX12_goRehearsal_P7 v1 k1 σ v2) :=
  it_T (S := (fun t : St × Int32 => t.1)) (lv := fun t : St × Int32 => [(0, .ref 10), (1, .int v1), (2, .int t.2)]) (st := fun _ => []) (fun kb hkb t => fX12_goRehearsal_L7_T v1 (hk1 := hk1) (hkb := fun σ v2 => hkb (σ, v2)) t.1 t.2) FU (σ, v2)
set_option maxRecDepth 100000 in
set_option maxHeartbeats 4000000 in
theorem fX12_goRehearsal_L121_T (v1 : Int32) (v2 : Int32) (v3 : Int32) (σ : St) {k1 : St → Option St} {kb : St → Int32 → Option St} (hk1 : ∀ (σ' : St), T kX12_goRehearsal cSv σ' 197 [(0, .ref 10), (1, .int v1)] [] (k1 σ')) (hkb : ∀ (σ' : St) (w4 : Int32), T kX12_goRehearsal cSv σ' 121 [(0, .ref 10), (1, .int v1), (2, .int v2), (3, .int v3), (4, .int w4)] [] (kb σ' w4)) (v4 : Int32) : T kX12_goRehearsal cSv σ 121 [(0, .ref 10), (1, .int v1), (2, .int v2), (3, .int v3), (4, .int v4)] [] (fX12_goRehearsal_L121 v1 v2 v3 k1 kb σ v4) := by
  unfold fX12_goRehearsal_L121
  refine T_iload (pc := 121) 4 dX12_goRehearsal_121 rfl ?_
  refine T_aload_n (pc := 123) 0 dX12_goRehearsal_123 rfl rfl ?_
  refine T_getI (pc := 124) fd_10_8 hw1511 dX12_goRehearsal_124 ?_
  refine T_icmp_ge (pc := 127) 197 dX12_goRehearsal_127 (by decide) (fun _ => ?_) (fun _ => ?_)
  · refine T_pick (lv' := [(0, .ref 10), (1, .int v1)]) [0, 1] rfl ?_
    exact hk1 σ
  · refine T_iload (pc := 130) 4 dX12_goRehearsal_130 rfl ?_
    refine T_iload_n (pc := 132) 2 dX12_goRehearsal_132 rfl rfl ?_
    refine T_icmp_eq (pc := 133) 191 dX12_goRehearsal_133 (by decide) (fun _ => ?_) (fun _ => ?_)
    · refine T_iinc (pc := 191) (y := 1) (lv' := [(0, .ref 10), (1, .int v1), (2, .int v2), (3, .int v3), (4, .int (v4 + (1 : Int32)))]) 4 dX12_goRehearsal_191 (by decide) rfl (Nat.le_of_ble_eq_true rfl) rfl ?_
      refine T_goto (pc := 194) 121 dX12_goRehearsal_194 (by decide) ?_
      exact hkb σ (v4 + (1 : Int32))
    · refine T_iload_n (pc := 136) 1 dX12_goRehearsal_136 rfl rfl ?_
      refine T_iload (pc := 137) 4 dX12_goRehearsal_137 rfl ?_
      refine T_callPz (pc := 139) (rest := []) (Rn_S (pc := 139) (as := [.int v1, .int v4]) (rest := []) (ctX12_has σ v1 v4) ms_X12_has hw1732 rfl ⟨Nat.le_of_ble_eq_true rfl, Nat.le_of_ble_eq_true rfl⟩ (Nat.le_of_ble_eq_true rfl) dX12_goRehearsal_139 rfl) rfl (fun x17 => ?_)
      refine T_if_eq (pc := 142) 191 dX12_goRehearsal_142 (by decide) (fun _ => ?_) (fun _ => ?_)
      · refine T_iinc (pc := 191) (y := 1) (lv' := [(0, .ref 10), (1, .int v1), (2, .int v2), (3, .int v3), (4, .int (v4 + (1 : Int32)))]) 4 dX12_goRehearsal_191 (by decide) rfl (Nat.le_of_ble_eq_true rfl) rfl ?_
        refine T_goto (pc := 194) 121 dX12_goRehearsal_194 (by decide) ?_
        exact hkb σ (v4 + (1 : Int32))
      · refine T_aload_n (pc := 145) 0 dX12_goRehearsal_145 rfl rfl ?_
        refine T_getA (pc := 146) fd_10_46 hw1549 dX12_goRehearsal_146 ?_
        refine T_iload (pc := 149) 4 dX12_goRehearsal_149 rfl ?_
        refine T_iald (pc := 151) rfl dX12_goRehearsal_151 (fun x18 => ?_)
        refine T_aload_n (pc := 152) 0 dX12_goRehearsal_152 rfl rfl ?_
        refine T_getA (pc := 153) fd_10_21 hw1524 dX12_goRehearsal_153 ?_
        refine T_iload (pc := 156) 4 dX12_goRehearsal_156 rfl ?_
        refine T_iald (pc := 158) rfl dX12_goRehearsal_158 (fun x19 => ?_)
        refine T_icmp_ge (pc := 159) 191 dX12_goRehearsal_159 (by decide) (fun _ => ?_) (fun _ => ?_)
        · refine T_iinc (pc := 191) (y := 1) (lv' := [(0, .ref 10), (1, .int v1), (2, .int v2), (3, .int v3), (4, .int (v4 + (1 : Int32)))]) 4 dX12_goRehearsal_191 (by decide) rfl (Nat.le_of_ble_eq_true rfl) rfl ?_
          refine T_goto (pc := 194) 121 dX12_goRehearsal_194 (by decide) ?_
          exact hkb σ (v4 + (1 : Int32))
        · refine T_aload_n (pc := 162) 0 dX12_goRehearsal_162 rfl rfl ?_
          refine T_bipush (pc := 163) (v := 16) dX12_goRehearsal_163 (by decide) ?_
          refine T_iload (pc := 165) 4 dX12_goRehearsal_165 rfl ?_
          refine T_imul (pc := 167) dX12_goRehearsal_167 ?_
          refine T_aload_n (pc := 168) 0 dX12_goRehearsal_168 rfl rfl ?_
          refine T_getA (pc := 169) fd_10_46 hw1549 dX12_goRehearsal_169 ?_
          refine T_iload (pc := 172) 4 dX12_goRehearsal_172 rfl ?_
          refine T_iald (pc := 174) rfl dX12_goRehearsal_174 (fun x20 => ?_)
          refine T_iadd (pc := 175) dX12_goRehearsal_175 ?_
          refine T_iload_n (pc := 176) 3 dX12_goRehearsal_176 rfl rfl ?_
          refine T_callPz (pc := 177) (rest := []) (Rn_V (pc := 177) (as := [.int (((16 : Int32) * v4) + x20), .int v3]) (rest := []) (ctX12_endsIt σ (((16 : Int32) * v4) + x20) v3) rfl rfl mv_X12_endsIt hw1865 rfl ⟨Nat.le_of_ble_eq_true rfl, Nat.le_of_ble_eq_true rfl⟩ (Nat.le_of_ble_eq_true rfl) dX12_goRehearsal_177 rfl) rfl (fun x21 => ?_)
          refine T_if_eq (pc := 180) 191 dX12_goRehearsal_180 (by decide) (fun _ => ?_) (fun _ => ?_)
          · refine T_iinc (pc := 191) (y := 1) (lv' := [(0, .ref 10), (1, .int v1), (2, .int v2), (3, .int v3), (4, .int (v4 + (1 : Int32)))]) 4 dX12_goRehearsal_191 (by decide) rfl (Nat.le_of_ble_eq_true rfl) rfl ?_
            refine T_goto (pc := 194) 121 dX12_goRehearsal_194 (by decide) ?_
            exact hkb σ (v4 + (1 : Int32))
          · refine T_aload_n (pc := 183) 0 dX12_goRehearsal_183 rfl rfl ?_
            refine T_getA (pc := 184) fd_10_47 hw1550 dX12_goRehearsal_184 ?_
            refine T_iload (pc := 187) 4 dX12_goRehearsal_187 rfl ?_
            refine T_iconst (pc := 189) (v := 1) dX12_goRehearsal_189 (by decide) ?_
            refine T_zast (pc := 190) rfl dX12_goRehearsal_190 ?_
            refine T_letS (fun s22 => ?_)
            refine T_iinc (pc := 191) (y := 1) (lv' := [(0, .ref 10), (1, .int v1), (2, .int v2), (3, .int v3), (4, .int (v4 + (1 : Int32)))]) 4 dX12_goRehearsal_191 (by decide) rfl (Nat.le_of_ble_eq_true rfl) rfl ?_
            refine T_goto (pc := 194) 121 dX12_goRehearsal_194 (by decide) ?_
            exact hkb s22 (v4 + (1 : Int32))
set_option maxRecDepth 100000 in
set_option maxHeartbeats 4000000 in
theorem fX12_goRehearsal_P121_T (v1 : Int32) (v2 : Int32) (v3 : Int32) (σ : St) {k1 : St → Option St} (hk1 : ∀ (σ' : St), T kX12_goRehearsal cSv σ' 197 [(0, .ref 10), (1, .int v1)] [] (k1 σ')) (v4 : Int32) : T kX12_goRehearsal cSv σ 121 [(0, .ref 10), (1, .int v1), (2, .int v2), (3, .int v3), (4, .int v4)] [] (fX12_goRehearsal_P121 v1 v2 v3 k1 σ v4) :=
  it_T (S := (fun t : St × Int32 => t.1)) (lv := fun t : St × Int32 => [(0, .ref 10), (1, .int v1), (2, .int v2), (3, .int v3), (4, .int t.2)]) (st := fun _ => []) (fun kb hkb t => fX12_goRehearsal_L121_T v1 v2 v3 (hk1 := hk1) (hkb := fun σ v4 => hkb (σ, v4)) t.1 t.2) FU (σ, v4)
set_option maxRecDepth 100000 in
set_option maxHeartbeats 4000000 in
theorem fX12_goRehearsal_L64_T (v1 : Int32) (σ : St) {kb : St → Int32 → Option St} (hkb : ∀ (σ' : St) (w2 : Int32), T kX12_goRehearsal cSv σ' 64 [(0, .ref 10), (1, .int v1), (2, .int w2)] [] (kb σ' w2)) (v2 : Int32) : T kX12_goRehearsal cSv σ 64 [(0, .ref 10), (1, .int v1), (2, .int v2)] [] (fX12_goRehearsal_L64 v1 kb σ v2) := by
  unfold fX12_goRehearsal_L64
  refine T_iload_n (pc := 64) 2 dX12_goRehearsal_64 rfl rfl ?_
  refine T_iconst (pc := 65) (v := -1) dX12_goRehearsal_65 (by decide) ?_
  refine T_icmp_eq (pc := 66) 205 dX12_goRehearsal_66 (by decide) (fun _ => ?_) (fun _ => ?_)
  · exact T_return (pc := 205) rfl dX12_goRehearsal_205 rfl
  · refine T_bipush (pc := 69) (v := 16) dX12_goRehearsal_69 (by decide) ?_
    refine T_iload_n (pc := 71) 2 dX12_goRehearsal_71 rfl rfl ?_
    refine T_imul (pc := 72) dX12_goRehearsal_72 ?_
    refine T_aload_n (pc := 73) 0 dX12_goRehearsal_73 rfl rfl ?_
    refine T_getA (pc := 74) fd_10_46 hw1549 dX12_goRehearsal_74 ?_
    refine T_iload_n (pc := 77) 2 dX12_goRehearsal_77 rfl rfl ?_
    refine T_iald (pc := 78) rfl dX12_goRehearsal_78 (fun x10 => ?_)
    refine T_iadd (pc := 79) dX12_goRehearsal_79 ?_
    refine T_letI (fun x11 => ?_)
    refine T_istore_n (pc := 80) (lv' := [(0, .ref 10), (1, .int v1), (2, .int v2), (3, .int x11)]) dX12_goRehearsal_80 rfl (Nat.le_of_ble_eq_true rfl) rfl ?_
    refine T_aload_n (pc := 81) 0 dX12_goRehearsal_81 rfl rfl ?_
    refine T_getA (pc := 82) fd_10_45 hw1548 dX12_goRehearsal_82 ?_
    refine T_aload_n (pc := 85) 0 dX12_goRehearsal_85 rfl rfl ?_
    refine T_getI (pc := 86) fd_10_49 hw1552 dX12_goRehearsal_86 ?_
    refine T_iload_n (pc := 89) 3 dX12_goRehearsal_89 rfl rfl ?_
    refine T_iast (pc := 90) rfl dX12_goRehearsal_90 ?_
    refine T_letS (fun s12 => ?_)
    refine T_aload_n (pc := 91) 0 dX12_goRehearsal_91 rfl rfl ?_
    refine T_dup_a (pc := 92) dX12_goRehearsal_92 ?_
    refine T_getI (pc := 93) fd_10_49 hw1552 dX12_goRehearsal_93 ?_
    refine T_iconst (pc := 96) (v := 1) dX12_goRehearsal_96 (by decide) ?_
    refine T_iadd (pc := 97) dX12_goRehearsal_97 ?_
    refine T_putI (pc := 98) fd_10_49 hw1552 dX12_goRehearsal_98 ?_
    refine T_letS (fun s13 => ?_)
    refine T_aload_n (pc := 101) 0 dX12_goRehearsal_101 rfl rfl ?_
    refine T_getA (pc := 102) fd_10_46 hw1549 dX12_goRehearsal_102 ?_
    refine T_iload_n (pc := 105) 2 dX12_goRehearsal_105 rfl rfl ?_
    refine T_dup2_ia (pc := 106) dX12_goRehearsal_106 ?_
    refine T_iald (pc := 107) rfl dX12_goRehearsal_107 (fun x14 => ?_)
    refine T_iconst (pc := 108) (v := 1) dX12_goRehearsal_108 (by decide) ?_
    refine T_iadd (pc := 109) dX12_goRehearsal_109 ?_
    refine T_iast (pc := 110) rfl dX12_goRehearsal_110 ?_
    refine T_letS (fun s15 => ?_)
    refine T_aload_n (pc := 111) 0 dX12_goRehearsal_111 rfl rfl ?_
    refine T_getA (pc := 112) fd_10_47 hw1550 dX12_goRehearsal_112 ?_
    refine T_iload_n (pc := 115) 2 dX12_goRehearsal_115 rfl rfl ?_
    refine T_iconst (pc := 116) (v := 0) dX12_goRehearsal_116 (by decide) ?_
    refine T_zast (pc := 117) rfl dX12_goRehearsal_117 ?_
    refine T_letS (fun s16 => ?_)
    refine T_iconst (pc := 118) (v := 0) dX12_goRehearsal_118 (by decide) ?_
    refine T_istore (pc := 119) (lv' := [(0, .ref 10), (1, .int v1), (2, .int v2), (3, .int x11), (4, .int (0 : Int32))]) dX12_goRehearsal_119 (Nat.le_of_ble_eq_true rfl) rfl ?_
    refine fX12_goRehearsal_P121_T v1 v2 x11 (hk1 := fun s23 => ?_) s16 (0 : Int32)
    · refine T_aload_n (pc := 197) 0 dX12_goRehearsal_197 rfl rfl ?_
      refine T_callPi (pc := 198) (rest := []) (Rn_V (pc := 198) (as := []) (rest := []) (ctX12_lowestReady s23) rfl rfl mv_X12_lowestReady hw2028 rfl ⟨Nat.le_of_ble_eq_true rfl, Nat.le_of_ble_eq_true rfl⟩ (Nat.le_of_ble_eq_true rfl) dX12_goRehearsal_198 rfl) rfl (fun x24 => ?_)
      refine T_istore_n (pc := 201) (lv' := [(0, .ref 10), (1, .int v1), (2, .int x24)]) dX12_goRehearsal_201 rfl (Nat.le_of_ble_eq_true rfl) rfl ?_
      refine T_goto (pc := 202) 64 dX12_goRehearsal_202 (by decide) ?_
      exact hkb s23 x24
set_option maxRecDepth 100000 in
set_option maxHeartbeats 4000000 in
theorem fX12_goRehearsal_P64_T (v1 : Int32) (σ : St) (v2 : Int32) : T kX12_goRehearsal cSv σ 64 [(0, .ref 10), (1, .int v1), (2, .int v2)] [] (fX12_goRehearsal_P64 v1 σ v2) :=
  it_T (S := (fun t : St × Int32 => t.1)) (lv := fun t : St × Int32 => [(0, .ref 10), (1, .int v1), (2, .int t.2)]) (st := fun _ => []) (fun kb hkb t => fX12_goRehearsal_L64_T v1 (hkb := fun σ v2 => hkb (σ, v2)) t.1 t.2) FU (σ, v2)
set_option maxRecDepth 100000 in
set_option maxHeartbeats 4000000 in
theorem ctX12_goRehearsal (σ : St) (p0 : Int32) : Ct yX12_goRehearsal kX12_goRehearsal [.ref 10, .int p0] σ cSv (fX12_goRehearsal σ p0) := by
  refine Ct.of (by decide +kernel) rfl rfl (Nat.le_of_ble_eq_true rfl) ?_
  unfold fX12_goRehearsal
  show T _ _ _ 0 [(0, .ref 10), (1, .int p0)] [] _
  refine T_aload_n (pc := 0) 0 dX12_goRehearsal_0 rfl rfl ?_
  refine T_iconst (pc := 1) (v := 0) dX12_goRehearsal_1 (by decide) ?_
  refine T_putI (pc := 2) fd_10_49 hw1552 dX12_goRehearsal_2 ?_
  refine T_letS (fun s1 => ?_)
  refine T_iconst (pc := 5) (v := 0) dX12_goRehearsal_5 (by decide) ?_
  refine T_istore_n (pc := 6) (lv' := [(0, .ref 10), (1, .int p0), (2, .int (0 : Int32))]) dX12_goRehearsal_6 rfl (Nat.le_of_ble_eq_true rfl) rfl ?_
  refine fX12_goRehearsal_P7_T p0 (hk1 := fun s8 => ?_) s1 (0 : Int32)
  · refine T_aload_n (pc := 59) 0 dX12_goRehearsal_59 rfl rfl ?_
    refine T_callPi (pc := 60) (rest := []) (Rn_V (pc := 60) (as := []) (rest := []) (ctX12_lowestReady s8) rfl rfl mv_X12_lowestReady hw2028 rfl ⟨Nat.le_of_ble_eq_true rfl, Nat.le_of_ble_eq_true rfl⟩ (Nat.le_of_ble_eq_true rfl) dX12_goRehearsal_60 rfl) rfl (fun x9 => ?_)
    refine T_istore_n (pc := 63) (lv' := [(0, .ref 10), (1, .int p0), (2, .int x9)]) dX12_goRehearsal_63 rfl (Nat.le_of_ble_eq_true rfl) rfl ?_
    exact fX12_goRehearsal_P64_T p0 s8 x9
set_option maxRecDepth 100000 in
set_option maxHeartbeats 4000000 in
theorem ctX12_isHabit (σ : St) (p0 : Int32) : Ct yX12_isHabit kX12_isHabit [.ref 10, .int p0] σ (cPz σ) (fX12_isHabit σ p0) := by
  refine Ct.of (by decide +kernel) rfl rfl (Nat.le_of_ble_eq_true rfl) ?_
  unfold fX12_isHabit
  show T _ _ _ 0 [(0, .ref 10), (1, .int p0)] [] _
  refine T_iload_n (pc := 0) 1 dX12_isHabit_0 rfl rfl ?_
  refine T_if_lt (pc := 1) 16 dX12_isHabit_1 (by decide) (fun _ => ?_) (fun _ => ?_)
  · refine T_iconst (pc := 16) (v := 0) dX12_isHabit_16 (by decide) ?_
    exact T_zreturn (pc := 17) false rfl dX12_isHabit_17 rfl rfl
  · refine T_iload_n (pc := 4) 1 dX12_isHabit_4 rfl rfl ?_
    refine T_aload_n (pc := 5) 0 dX12_isHabit_5 rfl rfl ?_
    refine T_getI (pc := 6) fd_10_10 hw1513 dX12_isHabit_6 ?_
    refine T_icmp_ge (pc := 9) 16 dX12_isHabit_9 (by decide) (fun _ => ?_) (fun _ => ?_)
    · refine T_iconst (pc := 16) (v := 0) dX12_isHabit_16 (by decide) ?_
      exact T_zreturn (pc := 17) false rfl dX12_isHabit_17 rfl rfl
    · refine T_iconst (pc := 12) (v := 1) dX12_isHabit_12 (by decide) ?_
      refine T_goto (pc := 13) 17 dX12_isHabit_13 (by decide) ?_
      exact T_zreturn (pc := 17) true rfl dX12_isHabit_17 rfl rfl
set_option maxRecDepth 100000 in
set_option maxHeartbeats 4000000 in
theorem ctX12_habit (σ : St) (p0 : Int32) (p1 : Int32) : Ct yX12_habit kX12_habit [.ref 10, .int p0, .int p1] σ cSz (fX12_habit σ p0 p1) := by
  refine Ct.of (by decide +kernel) rfl rfl (Nat.le_of_ble_eq_true rfl) ?_
  unfold fX12_habit
  show T _ _ _ 0 [(0, .ref 10), (1, .int p0), (2, .int p1)] [] _
  refine T_aload_n (pc := 0) 0 dX12_habit_0 rfl rfl ?_
  refine T_iconst (pc := 1) (v := 0) dX12_habit_1 (by decide) ?_
  refine T_putI (pc := 2) fd_10_0 hw1503 dX12_habit_2 ?_
  refine T_letS (fun s1 => ?_)
  refine T_aload_n (pc := 5) 0 dX12_habit_5 rfl rfl ?_
  refine T_iload_n (pc := 6) 1 dX12_habit_6 rfl rfl ?_
  refine T_callPz (pc := 7) (rest := []) (Rn_V (pc := 7) (as := [.int p0]) (rest := []) (ctX12_isRoll s1 p0) rfl rfl mv_X12_isRoll hw1853 rfl ⟨Nat.le_of_ble_eq_true rfl, Nat.le_of_ble_eq_true rfl⟩ (Nat.le_of_ble_eq_true rfl) dX12_habit_7 rfl) rfl (fun x2 => ?_)
  refine T_if_eq (pc := 10) 26 dX12_habit_10 (by decide) (fun _ => ?_) (fun _ => ?_)
  · refine T_iconst (pc := 26) (v := 0) dX12_habit_26 (by decide) ?_
    exact T_zreturn (pc := 27) false rfl dX12_habit_27 rfl rfl
  · refine T_iload_n (pc := 13) 2 dX12_habit_13 rfl rfl ?_
    refine T_iconst (pc := 14) (v := -1) dX12_habit_14 (by decide) ?_
    refine T_icmp_eq (pc := 15) 28 dX12_habit_15 (by decide) (fun _ => ?_) (fun _ => ?_)
    · refine T_aload_n (pc := 28) 0 dX12_habit_28 rfl rfl ?_
      refine T_getA (pc := 29) fd_10_30 hw1533 dX12_habit_29 ?_
      refine T_iload_n (pc := 32) 1 dX12_habit_32 rfl rfl ?_
      refine T_iload_n (pc := 33) 2 dX12_habit_33 rfl rfl ?_
      refine T_iast (pc := 34) rfl dX12_habit_34 ?_
      refine T_letS (fun s3 => ?_)
      refine T_iconst (pc := 35) (v := 1) dX12_habit_35 (by decide) ?_
      exact T_zreturn (pc := 36) true rfl dX12_habit_36 rfl rfl
    · refine T_aload_n (pc := 18) 0 dX12_habit_18 rfl rfl ?_
      refine T_iload_n (pc := 19) 2 dX12_habit_19 rfl rfl ?_
      refine T_callPz (pc := 20) (rest := []) (Rn_V (pc := 20) (as := [.int p1]) (rest := []) (ctX12_isHabit s1 p1) rfl rfl mv_X12_isHabit hw2104 rfl ⟨Nat.le_of_ble_eq_true rfl, Nat.le_of_ble_eq_true rfl⟩ (Nat.le_of_ble_eq_true rfl) dX12_habit_20 rfl) rfl (fun x4 => ?_)
      refine T_if_ne (pc := 23) 28 dX12_habit_23 (by decide) (fun _ => ?_) (fun _ => ?_)
      · refine T_aload_n (pc := 28) 0 dX12_habit_28 rfl rfl ?_
        refine T_getA (pc := 29) fd_10_30 hw1533 dX12_habit_29 ?_
        refine T_iload_n (pc := 32) 1 dX12_habit_32 rfl rfl ?_
        refine T_iload_n (pc := 33) 2 dX12_habit_33 rfl rfl ?_
        refine T_iast (pc := 34) rfl dX12_habit_34 ?_
        refine T_letS (fun s5 => ?_)
        refine T_iconst (pc := 35) (v := 1) dX12_habit_35 (by decide) ?_
        exact T_zreturn (pc := 36) true rfl dX12_habit_36 rfl rfl
      · refine T_iconst (pc := 26) (v := 0) dX12_habit_26 (by decide) ?_
        exact T_zreturn (pc := 27) false rfl dX12_habit_27 rfl rfl
set_option maxRecDepth 100000 in
set_option maxHeartbeats 4000000 in
theorem fX12_insideOf_L25_T (v1 : Int32) (v2 : Int32) (σ : St) {kb : Int32 → Option Int32} (hkb : ∀ (w3 : Int32), T kX12_insideOf (cPi σ) σ 25 [(0, .ref 10), (1, .int v1), (2, .int v2), (3, .int w3)] [] (kb w3)) (v3 : Int32) : T kX12_insideOf (cPi σ) σ 25 [(0, .ref 10), (1, .int v1), (2, .int v2), (3, .int v3)] [] (fX12_insideOf_L25 v1 v2 kb σ v3) := by
  unfold fX12_insideOf_L25
  refine T_iload_n (pc := 25) 3 dX12_insideOf_25 rfl rfl ?_
  refine T_iconst (pc := 26) (v := 2) dX12_insideOf_26 (by decide) ?_
  refine T_iadd (pc := 27) dX12_insideOf_27 ?_
  refine T_aload_n (pc := 28) 0 dX12_insideOf_28 rfl rfl ?_
  refine T_getA (pc := 29) fd_10_23 hw1526 dX12_insideOf_29 ?_
  refine T_iload_n (pc := 32) 2 dX12_insideOf_32 rfl rfl ?_
  refine T_iald (pc := 33) rfl dX12_insideOf_33 (fun x2 => ?_)
  refine T_icmp_ge (pc := 34) 69 dX12_insideOf_34 (by decide) (fun _ => ?_) (fun _ => ?_)
  · refine T_iconst (pc := 69) (v := -1) dX12_insideOf_69 (by decide) ?_
    exact T_ireturn (pc := 70) rfl dX12_insideOf_70 rfl
  · refine T_aload_n (pc := 37) 0 dX12_insideOf_37 rfl rfl ?_
    refine T_iload_n (pc := 38) 1 dX12_insideOf_38 rfl rfl ?_
    refine T_iconst (pc := 39) (v := 0) dX12_insideOf_39 (by decide) ?_
    refine T_iload_n (pc := 40) 2 dX12_insideOf_40 rfl rfl ?_
    refine T_iload_n (pc := 41) 3 dX12_insideOf_41 rfl rfl ?_
    refine T_callPz (pc := 42) (rest := []) (Rn_V (pc := 42) (as := [.int v1, .int (0 : Int32), .int v2, .int v3]) (rest := []) (ctX12_isWord σ v1 (0 : Int32) v2 v3) rfl rfl mv_X12_isWord hw1869 rfl ⟨Nat.le_of_ble_eq_true rfl, Nat.le_of_ble_eq_true rfl⟩ (Nat.le_of_ble_eq_true rfl) dX12_insideOf_42 rfl) rfl (fun x3 => ?_)
    refine T_if_eq (pc := 45) 63 dX12_insideOf_45 (by decide) (fun _ => ?_) (fun _ => ?_)
    · refine T_iinc (pc := 63) (y := 1) (lv' := [(0, .ref 10), (1, .int v1), (2, .int v2), (3, .int (v3 + (1 : Int32)))]) 3 dX12_insideOf_63 (by decide) rfl (Nat.le_of_ble_eq_true rfl) rfl ?_
      refine T_goto (pc := 66) 25 dX12_insideOf_66 (by decide) ?_
      exact hkb (v3 + (1 : Int32))
    · refine T_aload_n (pc := 48) 0 dX12_insideOf_48 rfl rfl ?_
      refine T_iload_n (pc := 49) 1 dX12_insideOf_49 rfl rfl ?_
      refine T_iconst (pc := 50) (v := 1) dX12_insideOf_50 (by decide) ?_
      refine T_iload_n (pc := 51) 2 dX12_insideOf_51 rfl rfl ?_
      refine T_iload_n (pc := 52) 3 dX12_insideOf_52 rfl rfl ?_
      refine T_iconst (pc := 53) (v := 1) dX12_insideOf_53 (by decide) ?_
      refine T_iadd (pc := 54) dX12_insideOf_54 ?_
      refine T_callPz (pc := 55) (rest := []) (Rn_V (pc := 55) (as := [.int v1, .int (1 : Int32), .int v2, .int (v3 + (1 : Int32))]) (rest := []) (ctX12_isWord σ v1 (1 : Int32) v2 (v3 + (1 : Int32))) rfl rfl mv_X12_isWord hw1869 rfl ⟨Nat.le_of_ble_eq_true rfl, Nat.le_of_ble_eq_true rfl⟩ (Nat.le_of_ble_eq_true rfl) dX12_insideOf_55 rfl) rfl (fun x4 => ?_)
      refine T_if_eq (pc := 58) 63 dX12_insideOf_58 (by decide) (fun _ => ?_) (fun _ => ?_)
      · refine T_iinc (pc := 63) (y := 1) (lv' := [(0, .ref 10), (1, .int v1), (2, .int v2), (3, .int (v3 + (1 : Int32)))]) 3 dX12_insideOf_63 (by decide) rfl (Nat.le_of_ble_eq_true rfl) rfl ?_
        refine T_goto (pc := 66) 25 dX12_insideOf_66 (by decide) ?_
        exact hkb (v3 + (1 : Int32))
      · refine T_iload_n (pc := 61) 3 dX12_insideOf_61 rfl rfl ?_
        exact T_ireturn (pc := 62) rfl dX12_insideOf_62 rfl
set_option maxRecDepth 100000 in
set_option maxHeartbeats 4000000 in
theorem fX12_insideOf_P25_T (v1 : Int32) (v2 : Int32) (σ : St) (v3 : Int32) : T kX12_insideOf (cPi σ) σ 25 [(0, .ref 10), (1, .int v1), (2, .int v2), (3, .int v3)] [] (fX12_insideOf_P25 v1 v2 σ v3) :=
  it_T (S := (fun _ : Int32 => σ)) (lv := fun t : Int32 => [(0, .ref 10), (1, .int v1), (2, .int v2), (3, .int t)]) (st := fun _ => []) (fun kb hkb t => fX12_insideOf_L25_T v1 v2 (hkb := fun v3 => hkb v3) σ t) FU v3
set_option maxRecDepth 100000 in
set_option maxHeartbeats 4000000 in
theorem ctX12_insideOf (σ : St) (p0 : Int32) (p1 : Int32) : Ct yX12_insideOf kX12_insideOf [.ref 10, .int p0, .int p1] σ (cPi σ) (fX12_insideOf σ p0 p1) := by
  refine Ct.of (by decide +kernel) rfl rfl (Nat.le_of_ble_eq_true rfl) ?_
  unfold fX12_insideOf
  show T _ _ _ 0 [(0, .ref 10), (1, .int p0), (2, .int p1)] [] _
  refine T_aload_n (pc := 0) 0 dX12_insideOf_0 rfl rfl ?_
  refine T_getA (pc := 1) fd_10_22 hw1525 dX12_insideOf_1 ?_
  refine T_iload_n (pc := 4) 1 dX12_insideOf_4 rfl rfl ?_
  refine T_iald (pc := 5) rfl dX12_insideOf_5 (fun x1 => ?_)
  refine T_iconst (pc := 6) (v := 2) dX12_insideOf_6 (by decide) ?_
  refine T_icmp_ne (pc := 7) 21 dX12_insideOf_7 (by decide) (fun _ => ?_) (fun _ => ?_)
  · refine T_iconst (pc := 21) (v := -1) dX12_insideOf_21 (by decide) ?_
    exact T_ireturn (pc := 22) rfl dX12_insideOf_22 rfl
  · refine T_iload_n (pc := 10) 1 dX12_insideOf_10 rfl rfl ?_
    refine T_bipush (pc := 11) (v := 16) dX12_insideOf_11 (by decide) ?_
    refine T_idiv (pc := 13) dX12_insideOf_13 ?_
    refine T_iload_n (pc := 14) 2 dX12_insideOf_14 rfl rfl ?_
    refine T_bipush (pc := 15) (v := 16) dX12_insideOf_15 (by decide) ?_
    refine T_idiv (pc := 17) dX12_insideOf_17 ?_
    refine T_icmp_ne (pc := 18) 23 dX12_insideOf_18 (by decide) (fun _ => ?_) (fun _ => ?_)
    · refine T_iconst (pc := 23) (v := 0) dX12_insideOf_23 (by decide) ?_
      refine T_istore_n (pc := 24) (lv' := [(0, .ref 10), (1, .int p0), (2, .int p1), (3, .int (0 : Int32))]) dX12_insideOf_24 rfl (Nat.le_of_ble_eq_true rfl) rfl ?_
      exact fX12_insideOf_P25_T p0 p1 σ (0 : Int32)
    · refine T_iconst (pc := 21) (v := -1) dX12_insideOf_21 (by decide) ?_
      exact T_ireturn (pc := 22) rfl dX12_insideOf_22 rfl
set_option maxRecDepth 100000 in
set_option maxHeartbeats 4000000 in
theorem ctX12_inside (σ : St) (p0 : Int32) (p1 : Int32) : Ct yX12_inside kX12_inside [.ref 10, .int p0, .int p1] σ cSi (fX12_inside σ p0 p1) := by
  refine Ct.of (by decide +kernel) rfl rfl (Nat.le_of_ble_eq_true rfl) ?_
  unfold fX12_inside
  show T _ _ _ 0 [(0, .ref 10), (1, .int p0), (2, .int p1)] [] _
  refine T_aload_n (pc := 0) 0 dX12_inside_0 rfl rfl ?_
  refine T_iconst (pc := 1) (v := 0) dX12_inside_1 (by decide) ?_
  refine T_putI (pc := 2) fd_10_0 hw1503 dX12_inside_2 ?_
  refine T_letS (fun s1 => ?_)
  refine T_aload_n (pc := 5) 0 dX12_inside_5 rfl rfl ?_
  refine T_iload_n (pc := 6) 1 dX12_inside_6 rfl rfl ?_
  refine T_callPz (pc := 7) (rest := []) (Rn_V (pc := 7) (as := [.int p0]) (rest := []) (ctX12_isSpeech s1 p0) rfl rfl mv_X12_isSpeech hw1849 rfl ⟨Nat.le_of_ble_eq_true rfl, Nat.le_of_ble_eq_true rfl⟩ (Nat.le_of_ble_eq_true rfl) dX12_inside_7 rfl) rfl (fun x2 => ?_)
  refine T_if_eq (pc := 10) 30 dX12_inside_10 (by decide) (fun _ => ?_) (fun _ => ?_)
  · refine T_iconst (pc := 30) (v := -1) dX12_inside_30 (by decide) ?_
    exact T_ireturn (pc := 31) rfl dX12_inside_31 rfl
  · refine T_aload_n (pc := 13) 0 dX12_inside_13 rfl rfl ?_
    refine T_iload_n (pc := 14) 2 dX12_inside_14 rfl rfl ?_
    refine T_callPz (pc := 15) (rest := []) (Rn_V (pc := 15) (as := [.int p1]) (rest := []) (ctX12_isSpeech s1 p1) rfl rfl mv_X12_isSpeech hw1849 rfl ⟨Nat.le_of_ble_eq_true rfl, Nat.le_of_ble_eq_true rfl⟩ (Nat.le_of_ble_eq_true rfl) dX12_inside_15 rfl) rfl (fun x3 => ?_)
    refine T_if_eq (pc := 18) 30 dX12_inside_18 (by decide) (fun _ => ?_) (fun _ => ?_)
    · refine T_iconst (pc := 30) (v := -1) dX12_inside_30 (by decide) ?_
      exact T_ireturn (pc := 31) rfl dX12_inside_31 rfl
    · refine T_aload_n (pc := 21) 0 dX12_inside_21 rfl rfl ?_
      refine T_iload_n (pc := 22) 1 dX12_inside_22 rfl rfl ?_
      refine T_iload_n (pc := 23) 2 dX12_inside_23 rfl rfl ?_
      refine T_callPi (pc := 24) (rest := []) (Rn_V (pc := 24) (as := [.int p0, .int p1]) (rest := []) (ctX12_insideOf s1 p0 p1) rfl rfl mv_X12_insideOf hw2040 rfl ⟨Nat.le_of_ble_eq_true rfl, Nat.le_of_ble_eq_true rfl⟩ (Nat.le_of_ble_eq_true rfl) dX12_inside_24 rfl) rfl (fun x4 => ?_)
      refine T_goto (pc := 27) 31 dX12_inside_27 (by decide) ?_
      exact T_ireturn (pc := 31) rfl dX12_inside_31 rfl
set_option maxRecDepth 100000 in
set_option maxHeartbeats 4000000 in
theorem ctX12_isOf (σ : St) (p0 : Int32) (p1 : Int32) : Ct yX12_isOf kX12_isOf [.ref 10, .int p0, .int p1] σ (cPz σ) (fX12_isOf σ p0 p1) := by
  refine Ct.of (by decide +kernel) rfl rfl (Nat.le_of_ble_eq_true rfl) ?_
  unfold fX12_isOf
  show T _ _ _ 0 [(0, .ref 10), (1, .int p0), (2, .int p1)] [] _
  refine T_aload_n (pc := 0) 0 dX12_isOf_0 rfl rfl ?_
  refine T_iload_n (pc := 1) 1 dX12_isOf_1 rfl rfl ?_
  refine T_callPz (pc := 2) (rest := []) (Rn_V (pc := 2) (as := [.int p0]) (rest := []) (ctX12_isSpeech σ p0) rfl rfl mv_X12_isSpeech hw1849 rfl ⟨Nat.le_of_ble_eq_true rfl, Nat.le_of_ble_eq_true rfl⟩ (Nat.le_of_ble_eq_true rfl) dX12_isOf_2 rfl) rfl (fun x1 => ?_)
  refine T_if_eq (pc := 5) 31 dX12_isOf_5 (by decide) (fun _ => ?_) (fun _ => ?_)
  · refine T_iconst (pc := 31) (v := 0) dX12_isOf_31 (by decide) ?_
    exact T_zreturn (pc := 32) false rfl dX12_isOf_32 rfl rfl
  · refine T_aload_n (pc := 8) 0 dX12_isOf_8 rfl rfl ?_
    refine T_iload_n (pc := 9) 2 dX12_isOf_9 rfl rfl ?_
    refine T_callPz (pc := 10) (rest := []) (Rn_V (pc := 10) (as := [.int p1]) (rest := []) (ctX12_areRolls σ p1) rfl rfl mv_X12_areRolls hw1911 rfl ⟨Nat.le_of_ble_eq_true rfl, Nat.le_of_ble_eq_true rfl⟩ (Nat.le_of_ble_eq_true rfl) dX12_isOf_10 rfl) rfl (fun x2 => ?_)
    refine T_if_eq (pc := 13) 31 dX12_isOf_13 (by decide) (fun _ => ?_) (fun _ => ?_)
    · refine T_iconst (pc := 31) (v := 0) dX12_isOf_31 (by decide) ?_
      exact T_zreturn (pc := 32) false rfl dX12_isOf_32 rfl rfl
    · refine T_iload_n (pc := 16) 2 dX12_isOf_16 rfl rfl ?_
      refine T_iload_n (pc := 17) 1 dX12_isOf_17 rfl rfl ?_
      refine T_bipush (pc := 18) (v := 16) dX12_isOf_18 (by decide) ?_
      refine T_idiv (pc := 20) dX12_isOf_20 ?_
      refine T_callPz (pc := 21) (rest := []) (Rn_S (pc := 21) (as := [.int p1, .int (p0 / (16 : Int32))]) (rest := []) (ctX12_has σ p1 (p0 / (16 : Int32))) ms_X12_has hw1732 rfl ⟨Nat.le_of_ble_eq_true rfl, Nat.le_of_ble_eq_true rfl⟩ (Nat.le_of_ble_eq_true rfl) dX12_isOf_21 rfl) rfl (fun x3 => ?_)
      refine T_if_eq (pc := 24) 31 dX12_isOf_24 (by decide) (fun _ => ?_) (fun _ => ?_)
      · refine T_iconst (pc := 31) (v := 0) dX12_isOf_31 (by decide) ?_
        exact T_zreturn (pc := 32) false rfl dX12_isOf_32 rfl rfl
      · refine T_iconst (pc := 27) (v := 1) dX12_isOf_27 (by decide) ?_
        refine T_goto (pc := 28) 32 dX12_isOf_28 (by decide) ?_
        exact T_zreturn (pc := 32) true rfl dX12_isOf_32 rfl rfl
set_option maxRecDepth 100000 in
set_option maxHeartbeats 4000000 in
theorem ctX12_isOfOthers (σ : St) (p0 : Int32) (p1 : Int32) (p2 : Int32) : Ct yX12_isOfOthers kX12_isOfOthers [.ref 10, .int p0, .int p1, .int p2] σ (cPz σ) (fX12_isOfOthers σ p0 p1 p2) := by
  refine Ct.of (by decide +kernel) rfl rfl (Nat.le_of_ble_eq_true rfl) ?_
  unfold fX12_isOfOthers
  show T _ _ _ 0 [(0, .ref 10), (1, .int p0), (2, .int p1), (3, .int p2)] [] _
  refine T_aload_n (pc := 0) 0 dX12_isOfOthers_0 rfl rfl ?_
  refine T_iload_n (pc := 1) 3 dX12_isOfOthers_1 rfl rfl ?_
  refine T_callPz (pc := 2) (rest := []) (Rn_V (pc := 2) (as := [.int p2]) (rest := []) (ctX12_isSpeech σ p2) rfl rfl mv_X12_isSpeech hw1849 rfl ⟨Nat.le_of_ble_eq_true rfl, Nat.le_of_ble_eq_true rfl⟩ (Nat.le_of_ble_eq_true rfl) dX12_isOfOthers_2 rfl) rfl (fun x1 => ?_)
  refine T_if_eq (pc := 5) 34 dX12_isOfOthers_5 (by decide) (fun _ => ?_) (fun _ => ?_)
  · refine T_iconst (pc := 34) (v := 0) dX12_isOfOthers_34 (by decide) ?_
    exact T_zreturn (pc := 35) false rfl dX12_isOfOthers_35 rfl rfl
  · refine T_iload_n (pc := 8) 3 dX12_isOfOthers_8 rfl rfl ?_
    refine T_bipush (pc := 9) (v := 16) dX12_isOfOthers_9 (by decide) ?_
    refine T_idiv (pc := 11) dX12_isOfOthers_11 ?_
    refine T_iload_n (pc := 12) 1 dX12_isOfOthers_12 rfl rfl ?_
    refine T_bipush (pc := 13) (v := 16) dX12_isOfOthers_13 (by decide) ?_
    refine T_idiv (pc := 15) dX12_isOfOthers_15 ?_
    refine T_icmp_eq (pc := 16) 34 dX12_isOfOthers_16 (by decide) (fun _ => ?_) (fun _ => ?_)
    · refine T_iconst (pc := 34) (v := 0) dX12_isOfOthers_34 (by decide) ?_
      exact T_zreturn (pc := 35) false rfl dX12_isOfOthers_35 rfl rfl
    · refine T_iload_n (pc := 19) 2 dX12_isOfOthers_19 rfl rfl ?_
      refine T_iload_n (pc := 20) 3 dX12_isOfOthers_20 rfl rfl ?_
      refine T_bipush (pc := 21) (v := 16) dX12_isOfOthers_21 (by decide) ?_
      refine T_idiv (pc := 23) dX12_isOfOthers_23 ?_
      refine T_callPz (pc := 24) (rest := []) (Rn_S (pc := 24) (as := [.int p1, .int (p2 / (16 : Int32))]) (rest := []) (ctX12_has σ p1 (p2 / (16 : Int32))) ms_X12_has hw1732 rfl ⟨Nat.le_of_ble_eq_true rfl, Nat.le_of_ble_eq_true rfl⟩ (Nat.le_of_ble_eq_true rfl) dX12_isOfOthers_24 rfl) rfl (fun x2 => ?_)
      refine T_if_eq (pc := 27) 34 dX12_isOfOthers_27 (by decide) (fun _ => ?_) (fun _ => ?_)
      · refine T_iconst (pc := 34) (v := 0) dX12_isOfOthers_34 (by decide) ?_
        exact T_zreturn (pc := 35) false rfl dX12_isOfOthers_35 rfl rfl
      · refine T_iconst (pc := 30) (v := 1) dX12_isOfOthers_30 (by decide) ?_
        refine T_goto (pc := 31) 35 dX12_isOfOthers_31 (by decide) ?_
        exact T_zreturn (pc := 35) true rfl dX12_isOfOthers_35 rfl rfl
set_option maxRecDepth 100000 in
set_option maxHeartbeats 4000000 in
theorem fX12_isSameCue_L57_T (v1 : Int32) (v2 : Int32) (v3 : Int32) (σ : St) {k1 : Unit → Option Bool} {kb : Int32 → Option Bool} (hk1 : ∀ (_u : Unit), T kX12_isSameCue (cPz σ) σ 119 [(0, .ref 10), (1, .int v1), (2, .int v2), (3, .int v3)] [] (k1 ())) (hkb : ∀ (w4 : Int32), T kX12_isSameCue (cPz σ) σ 57 [(0, .ref 10), (1, .int v1), (2, .int v2), (3, .int v3), (4, .int w4)] [] (kb w4)) (v4 : Int32) : T kX12_isSameCue (cPz σ) σ 57 [(0, .ref 10), (1, .int v1), (2, .int v2), (3, .int v3), (4, .int v4)] [] (fX12_isSameCue_L57 v1 v2 v3 k1 kb σ v4) := by
  unfold fX12_isSameCue_L57
  refine T_iload (pc := 57) 4 dX12_isSameCue_57 rfl ?_
  refine T_aload_n (pc := 59) 0 dX12_isSameCue_59 rfl rfl ?_
  refine T_getA (pc := 60) fd_10_25 hw1528 dX12_isSameCue_60 ?_
  refine T_iconst (pc := 63) (v := 2) dX12_isSameCue_63 (by decide) ?_
  refine T_iload_n (pc := 64) 1 dX12_isSameCue_64 rfl rfl ?_
  refine T_imul (pc := 65) dX12_isSameCue_65 ?_
  refine T_iload_n (pc := 66) 3 dX12_isSameCue_66 rfl rfl ?_
  refine T_iadd (pc := 67) dX12_isSameCue_67 ?_
  refine T_iald (pc := 68) rfl dX12_isSameCue_68 (fun x6 => ?_)
  refine T_icmp_ge (pc := 69) 119 dX12_isSameCue_69 (by decide) (fun _ => ?_) (fun _ => ?_)
  · refine T_pick (lv' := [(0, .ref 10), (1, .int v1), (2, .int v2), (3, .int v3)]) [0, 1, 2, 3] rfl ?_
    exact hk1 ()
  · refine T_aload_n (pc := 72) 0 dX12_isSameCue_72 rfl rfl ?_
    refine T_iload_n (pc := 73) 1 dX12_isSameCue_73 rfl rfl ?_
    refine T_aload_n (pc := 74) 0 dX12_isSameCue_74 rfl rfl ?_
    refine T_getA (pc := 75) fd_10_24 hw1527 dX12_isSameCue_75 ?_
    refine T_iconst (pc := 78) (v := 2) dX12_isSameCue_78 (by decide) ?_
    refine T_iload_n (pc := 79) 1 dX12_isSameCue_79 rfl rfl ?_
    refine T_imul (pc := 80) dX12_isSameCue_80 ?_
    refine T_iload_n (pc := 81) 3 dX12_isSameCue_81 rfl rfl ?_
    refine T_iadd (pc := 82) dX12_isSameCue_82 ?_
    refine T_iald (pc := 83) rfl dX12_isSameCue_83 (fun x7 => ?_)
    refine T_iload (pc := 84) 4 dX12_isSameCue_84 rfl ?_
    refine T_iadd (pc := 86) dX12_isSameCue_86 ?_
    refine T_callPi (pc := 87) (rest := []) (Rn_V (pc := 87) (as := [.int v1, .int (x7 + v4)]) (rest := []) (ctX12_letter σ v1 (x7 + v4)) rfl rfl mv_X12_letter hw1873 rfl ⟨Nat.le_of_ble_eq_true rfl, Nat.le_of_ble_eq_true rfl⟩ (Nat.le_of_ble_eq_true rfl) dX12_isSameCue_87 rfl) rfl (fun x8 => ?_)
    refine T_aload_n (pc := 90) 0 dX12_isSameCue_90 rfl rfl ?_
    refine T_iload_n (pc := 91) 2 dX12_isSameCue_91 rfl rfl ?_
    refine T_aload_n (pc := 92) 0 dX12_isSameCue_92 rfl rfl ?_
    refine T_getA (pc := 93) fd_10_24 hw1527 dX12_isSameCue_93 ?_
    refine T_iconst (pc := 96) (v := 2) dX12_isSameCue_96 (by decide) ?_
    refine T_iload_n (pc := 97) 2 dX12_isSameCue_97 rfl rfl ?_
    refine T_imul (pc := 98) dX12_isSameCue_98 ?_
    refine T_iload_n (pc := 99) 3 dX12_isSameCue_99 rfl rfl ?_
    refine T_iadd (pc := 100) dX12_isSameCue_100 ?_
    refine T_iald (pc := 101) rfl dX12_isSameCue_101 (fun x9 => ?_)
    refine T_iload (pc := 102) 4 dX12_isSameCue_102 rfl ?_
    refine T_iadd (pc := 104) dX12_isSameCue_104 ?_
    refine T_callPi (pc := 105) (rest := [.int x8]) (Rn_V (pc := 105) (as := [.int v2, .int (x9 + v4)]) (rest := [.int x8]) (ctX12_letter σ v2 (x9 + v4)) rfl rfl mv_X12_letter hw1873 rfl ⟨Nat.le_of_ble_eq_true rfl, Nat.le_of_ble_eq_true rfl⟩ (Nat.le_of_ble_eq_true rfl) dX12_isSameCue_105 rfl) rfl (fun x10 => ?_)
    refine T_icmp_eq (pc := 108) 113 dX12_isSameCue_108 (by decide) (fun _ => ?_) (fun _ => ?_)
    · refine T_iinc (pc := 113) (y := 1) (lv' := [(0, .ref 10), (1, .int v1), (2, .int v2), (3, .int v3), (4, .int (v4 + (1 : Int32)))]) 4 dX12_isSameCue_113 (by decide) rfl (Nat.le_of_ble_eq_true rfl) rfl ?_
      refine T_goto (pc := 116) 57 dX12_isSameCue_116 (by decide) ?_
      exact hkb (v4 + (1 : Int32))
    · refine T_iconst (pc := 111) (v := 0) dX12_isSameCue_111 (by decide) ?_
      exact T_zreturn (pc := 112) false rfl dX12_isSameCue_112 rfl rfl
set_option maxRecDepth 100000 in
set_option maxHeartbeats 4000000 in
theorem fX12_isSameCue_P57_T (v1 : Int32) (v2 : Int32) (v3 : Int32) (σ : St) {k1 : Unit → Option Bool} (hk1 : ∀ (_u : Unit), T kX12_isSameCue (cPz σ) σ 119 [(0, .ref 10), (1, .int v1), (2, .int v2), (3, .int v3)] [] (k1 ())) (v4 : Int32) : T kX12_isSameCue (cPz σ) σ 57 [(0, .ref 10), (1, .int v1), (2, .int v2), (3, .int v3), (4, .int v4)] [] (fX12_isSameCue_P57 v1 v2 v3 k1 σ v4) :=
  it_T (S := (fun _ : Int32 => σ)) (lv := fun t : Int32 => [(0, .ref 10), (1, .int v1), (2, .int v2), (3, .int v3), (4, .int t)]) (st := fun _ => []) (fun kb hkb t => fX12_isSameCue_L57_T v1 v2 v3 (hk1 := hk1) (hkb := fun v4 => hkb v4) σ t) FU v4
set_option maxRecDepth 100000 in
set_option maxHeartbeats 4000000 in
theorem fX12_isSameCue_L19_T (v1 : Int32) (v2 : Int32) (σ : St) {kb : Int32 → Option Bool} (hkb : ∀ (w3 : Int32), T kX12_isSameCue (cPz σ) σ 19 [(0, .ref 10), (1, .int v1), (2, .int v2), (3, .int w3)] [] (kb w3)) (v3 : Int32) : T kX12_isSameCue (cPz σ) σ 19 [(0, .ref 10), (1, .int v1), (2, .int v2), (3, .int v3)] [] (fX12_isSameCue_L19 v1 v2 kb σ v3) := by
  unfold fX12_isSameCue_L19
  refine T_iload_n (pc := 19) 3 dX12_isSameCue_19 rfl rfl ?_
  refine T_aload_n (pc := 20) 0 dX12_isSameCue_20 rfl rfl ?_
  refine T_getA (pc := 21) fd_10_22 hw1525 dX12_isSameCue_21 ?_
  refine T_iload_n (pc := 24) 1 dX12_isSameCue_24 rfl rfl ?_
  refine T_iald (pc := 25) rfl dX12_isSameCue_25 (fun x3 => ?_)
  refine T_icmp_ge (pc := 26) 125 dX12_isSameCue_26 (by decide) (fun _ => ?_) (fun _ => ?_)
  · refine T_iconst (pc := 125) (v := 1) dX12_isSameCue_125 (by decide) ?_
    exact T_zreturn (pc := 126) true rfl dX12_isSameCue_126 rfl rfl
  · refine T_aload_n (pc := 29) 0 dX12_isSameCue_29 rfl rfl ?_
    refine T_getA (pc := 30) fd_10_25 hw1528 dX12_isSameCue_30 ?_
    refine T_iconst (pc := 33) (v := 2) dX12_isSameCue_33 (by decide) ?_
    refine T_iload_n (pc := 34) 1 dX12_isSameCue_34 rfl rfl ?_
    refine T_imul (pc := 35) dX12_isSameCue_35 ?_
    refine T_iload_n (pc := 36) 3 dX12_isSameCue_36 rfl rfl ?_
    refine T_iadd (pc := 37) dX12_isSameCue_37 ?_
    refine T_iald (pc := 38) rfl dX12_isSameCue_38 (fun x4 => ?_)
    refine T_aload_n (pc := 39) 0 dX12_isSameCue_39 rfl rfl ?_
    refine T_getA (pc := 40) fd_10_25 hw1528 dX12_isSameCue_40 ?_
    refine T_iconst (pc := 43) (v := 2) dX12_isSameCue_43 (by decide) ?_
    refine T_iload_n (pc := 44) 2 dX12_isSameCue_44 rfl rfl ?_
    refine T_imul (pc := 45) dX12_isSameCue_45 ?_
    refine T_iload_n (pc := 46) 3 dX12_isSameCue_46 rfl rfl ?_
    refine T_iadd (pc := 47) dX12_isSameCue_47 ?_
    refine T_iald (pc := 48) rfl dX12_isSameCue_48 (fun x5 => ?_)
    refine T_icmp_eq (pc := 49) 54 dX12_isSameCue_49 (by decide) (fun _ => ?_) (fun _ => ?_)
    · refine T_iconst (pc := 54) (v := 0) dX12_isSameCue_54 (by decide) ?_
      refine T_istore (pc := 55) (lv' := [(0, .ref 10), (1, .int v1), (2, .int v2), (3, .int v3), (4, .int (0 : Int32))]) dX12_isSameCue_55 (Nat.le_of_ble_eq_true rfl) rfl ?_
      refine fX12_isSameCue_P57_T v1 v2 v3 (hk1 := fun _u => ?_) σ (0 : Int32)
      · refine T_iinc (pc := 119) (y := 1) (lv' := [(0, .ref 10), (1, .int v1), (2, .int v2), (3, .int (v3 + (1 : Int32)))]) 3 dX12_isSameCue_119 (by decide) rfl (Nat.le_of_ble_eq_true rfl) rfl ?_
        refine T_goto (pc := 122) 19 dX12_isSameCue_122 (by decide) ?_
        exact hkb (v3 + (1 : Int32))
    · refine T_iconst (pc := 52) (v := 0) dX12_isSameCue_52 (by decide) ?_
      exact T_zreturn (pc := 53) false rfl dX12_isSameCue_53 rfl rfl
set_option maxRecDepth 100000 in
set_option maxHeartbeats 4000000 in
theorem fX12_isSameCue_P19_T (v1 : Int32) (v2 : Int32) (σ : St) (v3 : Int32) : T kX12_isSameCue (cPz σ) σ 19 [(0, .ref 10), (1, .int v1), (2, .int v2), (3, .int v3)] [] (fX12_isSameCue_P19 v1 v2 σ v3) :=
  it_T (S := (fun _ : Int32 => σ)) (lv := fun t : Int32 => [(0, .ref 10), (1, .int v1), (2, .int v2), (3, .int t)]) (st := fun _ => []) (fun kb hkb t => fX12_isSameCue_L19_T v1 v2 (hkb := fun v3 => hkb v3) σ t) FU v3
set_option maxRecDepth 100000 in
set_option maxHeartbeats 4000000 in
theorem ctX12_isSameCue (σ : St) (p0 : Int32) (p1 : Int32) : Ct yX12_isSameCue kX12_isSameCue [.ref 10, .int p0, .int p1] σ (cPz σ) (fX12_isSameCue σ p0 p1) := by
  refine Ct.of (by decide +kernel) rfl rfl (Nat.le_of_ble_eq_true rfl) ?_
  unfold fX12_isSameCue
  show T _ _ _ 0 [(0, .ref 10), (1, .int p0), (2, .int p1)] [] _
  refine T_aload_n (pc := 0) 0 dX12_isSameCue_0 rfl rfl ?_
  refine T_getA (pc := 1) fd_10_22 hw1525 dX12_isSameCue_1 ?_
  refine T_iload_n (pc := 4) 1 dX12_isSameCue_4 rfl rfl ?_
  refine T_iald (pc := 5) rfl dX12_isSameCue_5 (fun x1 => ?_)
  refine T_aload_n (pc := 6) 0 dX12_isSameCue_6 rfl rfl ?_
  refine T_getA (pc := 7) fd_10_22 hw1525 dX12_isSameCue_7 ?_
  refine T_iload_n (pc := 10) 2 dX12_isSameCue_10 rfl rfl ?_
  refine T_iald (pc := 11) rfl dX12_isSameCue_11 (fun x2 => ?_)
  refine T_icmp_eq (pc := 12) 17 dX12_isSameCue_12 (by decide) (fun _ => ?_) (fun _ => ?_)
  · refine T_iconst (pc := 17) (v := 0) dX12_isSameCue_17 (by decide) ?_
    refine T_istore_n (pc := 18) (lv' := [(0, .ref 10), (1, .int p0), (2, .int p1), (3, .int (0 : Int32))]) dX12_isSameCue_18 rfl (Nat.le_of_ble_eq_true rfl) rfl ?_
    exact fX12_isSameCue_P19_T p0 p1 σ (0 : Int32)
  · refine T_iconst (pc := 15) (v := 0) dX12_isSameCue_15 (by decide) ?_
    exact T_zreturn (pc := 16) false rfl dX12_isSameCue_16 rfl rfl
set_option maxRecDepth 100000 in
set_option maxHeartbeats 4000000 in
theorem ctX12_isWrong (σ : St) (p0 : Int32) : Ct yX12_isWrong kX12_isWrong [.ref 10, .int p0] σ (cPz σ) (fX12_isWrong σ p0) := by
  refine Ct.of (by decide +kernel) rfl rfl (Nat.le_of_ble_eq_true rfl) ?_
  unfold fX12_isWrong
  show T _ _ _ 0 [(0, .ref 10), (1, .int p0)] [] _
  refine T_aload_n (pc := 0) 0 dX12_isWrong_0 rfl rfl ?_
  refine T_getA (pc := 1) fd_10_44 hw1547 dX12_isWrong_1 ?_
  refine T_iload_n (pc := 4) 1 dX12_isWrong_4 rfl rfl ?_
  refine T_iald (pc := 5) rfl dX12_isWrong_5 (fun x1 => ?_)
  refine T_istore_n (pc := 6) (lv' := [(0, .ref 10), (1, .int p0), (2, .int x1)]) dX12_isWrong_6 rfl (Nat.le_of_ble_eq_true rfl) rfl ?_
  refine T_iload_n (pc := 7) 1 dX12_isWrong_7 rfl rfl ?_
  refine T_if_ne (pc := 8) 26 dX12_isWrong_8 (by decide) (fun _ => ?_) (fun _ => ?_)
  · refine T_aload_n (pc := 26) 0 dX12_isWrong_26 rfl rfl ?_
    refine T_getA (pc := 27) fd_10_44 hw1547 dX12_isWrong_27 ?_
    refine T_iload_n (pc := 30) 1 dX12_isWrong_30 rfl rfl ?_
    refine T_iconst (pc := 31) (v := 1) dX12_isWrong_31 (by decide) ?_
    refine T_isub (pc := 32) dX12_isWrong_32 ?_
    refine T_iald (pc := 33) rfl dX12_isWrong_33 (fun x2 => ?_)
    refine T_bipush (pc := 34) (v := 16) dX12_isWrong_34 (by decide) ?_
    refine T_idiv (pc := 36) dX12_isWrong_36 ?_
    refine T_iload_n (pc := 37) 2 dX12_isWrong_37 rfl rfl ?_
    refine T_bipush (pc := 38) (v := 16) dX12_isWrong_38 (by decide) ?_
    refine T_idiv (pc := 40) dX12_isWrong_40 ?_
    refine T_icmp_eq (pc := 41) 60 dX12_isWrong_41 (by decide) (fun _ => ?_) (fun _ => ?_)
    · refine T_iconst (pc := 60) (v := 1) dX12_isWrong_60 (by decide) ?_
      refine T_goto (pc := 61) 65 dX12_isWrong_61 (by decide) ?_
      exact T_zreturn (pc := 65) true rfl dX12_isWrong_65 rfl rfl
    · refine T_aload_n (pc := 44) 0 dX12_isWrong_44 rfl rfl ?_
      refine T_iload_n (pc := 45) 2 dX12_isWrong_45 rfl rfl ?_
      refine T_aload_n (pc := 46) 0 dX12_isWrong_46 rfl rfl ?_
      refine T_getA (pc := 47) fd_10_44 hw1547 dX12_isWrong_47 ?_
      refine T_iload_n (pc := 50) 1 dX12_isWrong_50 rfl rfl ?_
      refine T_iconst (pc := 51) (v := 1) dX12_isWrong_51 (by decide) ?_
      refine T_isub (pc := 52) dX12_isWrong_52 ?_
      refine T_iald (pc := 53) rfl dX12_isWrong_53 (fun x3 => ?_)
      refine T_callPz (pc := 54) (rest := []) (Rn_V (pc := 54) (as := [.int x1, .int x3]) (rest := []) (ctX12_endsIt σ x1 x3) rfl rfl mv_X12_endsIt hw1865 rfl ⟨Nat.le_of_ble_eq_true rfl, Nat.le_of_ble_eq_true rfl⟩ (Nat.le_of_ble_eq_true rfl) dX12_isWrong_54 rfl) rfl (fun x4 => ?_)
      refine T_if_ne (pc := 57) 64 dX12_isWrong_57 (by decide) (fun _ => ?_) (fun _ => ?_)
      · refine T_iconst (pc := 64) (v := 0) dX12_isWrong_64 (by decide) ?_
        exact T_zreturn (pc := 65) false rfl dX12_isWrong_65 rfl rfl
      · refine T_iconst (pc := 60) (v := 1) dX12_isWrong_60 (by decide) ?_
        refine T_goto (pc := 61) 65 dX12_isWrong_61 (by decide) ?_
        exact T_zreturn (pc := 65) true rfl dX12_isWrong_65 rfl rfl
  · refine T_aload_n (pc := 11) 0 dX12_isWrong_11 rfl rfl ?_
    refine T_getA (pc := 12) fd_10_22 hw1525 dX12_isWrong_12 ?_
    refine T_iload_n (pc := 15) 2 dX12_isWrong_15 rfl rfl ?_
    refine T_iald (pc := 16) rfl dX12_isWrong_16 (fun x5 => ?_)
    refine T_if_le (pc := 17) 24 dX12_isWrong_17 (by decide) (fun _ => ?_) (fun _ => ?_)
    · refine T_iconst (pc := 24) (v := 0) dX12_isWrong_24 (by decide) ?_
      exact T_zreturn (pc := 25) false rfl dX12_isWrong_25 rfl rfl
    · refine T_iconst (pc := 20) (v := 1) dX12_isWrong_20 (by decide) ?_
      refine T_goto (pc := 21) 25 dX12_isWrong_21 (by decide) ?_
      exact T_zreturn (pc := 25) true rfl dX12_isWrong_25 rfl rfl
set_option maxRecDepth 100000 in
set_option maxHeartbeats 4000000 in
theorem ctX12_keep (σ : St) : Ct yX12_keep kX12_keep [.ref 10] σ cSi (fX12_keep σ) := by
  refine Ct.of (by decide +kernel) rfl rfl (Nat.le_of_ble_eq_true rfl) ?_
  unfold fX12_keep
  show T _ _ _ 0 [(0, .ref 10)] [] _
  refine T_aload_n (pc := 0) 0 dX12_keep_0 rfl rfl ?_
  refine T_iconst (pc := 1) (v := 0) dX12_keep_1 (by decide) ?_
  refine T_putI (pc := 2) fd_10_0 hw1503 dX12_keep_2 ?_
  refine T_letS (fun s1 => ?_)
  refine T_aload_n (pc := 5) 0 dX12_keep_5 rfl rfl ?_
  refine T_aload_n (pc := 6) 0 dX12_keep_6 rfl rfl ?_
  refine T_getI (pc := 7) fd_10_8 hw1511 dX12_keep_7 ?_
  refine T_putI (pc := 10) fd_10_52 hw1555 dX12_keep_10 ?_
  refine T_letS (fun s2 => ?_)
  refine T_aload_n (pc := 13) 0 dX12_keep_13 rfl rfl ?_
  refine T_aload_n (pc := 14) 0 dX12_keep_14 rfl rfl ?_
  refine T_getI (pc := 15) fd_10_48 hw1551 dX12_keep_15 ?_
  refine T_putI (pc := 18) fd_10_53 hw1556 dX12_keep_18 ?_
  refine T_letS (fun s3 => ?_)
  refine T_aload_n (pc := 21) 0 dX12_keep_21 rfl rfl ?_
  refine T_getI (pc := 22) fd_10_8 hw1511 dX12_keep_22 ?_
  refine T_aload_n (pc := 25) 0 dX12_keep_25 rfl rfl ?_
  refine T_getI (pc := 26) fd_10_48 hw1551 dX12_keep_26 ?_
  refine T_iadd (pc := 29) dX12_keep_29 ?_
  exact T_ireturn (pc := 30) rfl dX12_keep_30 rfl
set_option maxRecDepth 100000 in
set_option maxHeartbeats 4000000 in
theorem fX12_nearestOf_L8_T (v1 : Int32) (v2 : Int32) (σ : St) {kb : St → Int32 → Int32 → Int32 → Option (Int32 × St)} (hkb : ∀ (σ' : St) (w3 : Int32) (w4 : Int32) (w5 : Int32), T kX12_nearestOf cSi σ' 8 [(0, .ref 10), (1, .int v1), (2, .int v2), (3, .int w3), (4, .int w4), (5, .int w5)] [] (kb σ' w3 w4 w5)) (v3 : Int32) (v4 : Int32) (v5 : Int32) : T kX12_nearestOf cSi σ 8 [(0, .ref 10), (1, .int v1), (2, .int v2), (3, .int v3), (4, .int v4), (5, .int v5)] [] (fX12_nearestOf_L8 v1 v2 kb σ v3 v4 v5) := by
  unfold fX12_nearestOf_L8
  refine T_iload (pc := 8) 5 dX12_nearestOf_8 rfl ?_
  refine T_sipush (pc := 10) (v := 128) dX12_nearestOf_10 (by decide) ?_
  refine T_icmp_ge (pc := 13) 67 dX12_nearestOf_13 (by decide) (fun _ => ?_) (fun _ => ?_)
  · refine T_iload_n (pc := 67) 3 dX12_nearestOf_67 rfl rfl ?_
    exact T_ireturn (pc := 68) rfl dX12_nearestOf_68 rfl
  · refine T_aload_n (pc := 16) 0 dX12_nearestOf_16 rfl rfl ?_
    refine T_iload_n (pc := 17) 1 dX12_nearestOf_17 rfl rfl ?_
    refine T_iload_n (pc := 18) 2 dX12_nearestOf_18 rfl rfl ?_
    refine T_iload (pc := 19) 5 dX12_nearestOf_19 rfl ?_
    refine T_callPz (pc := 21) (rest := []) (Rn_V (pc := 21) (as := [.int v1, .int v2, .int v5]) (rest := []) (ctX12_isOfOthers σ v1 v2 v5) rfl rfl mv_X12_isOfOthers hw1919 rfl ⟨Nat.le_of_ble_eq_true rfl, Nat.le_of_ble_eq_true rfl⟩ (Nat.le_of_ble_eq_true rfl) dX12_nearestOf_21 rfl) rfl (fun x1 => ?_)
    refine T_if_ne (pc := 24) 30 dX12_nearestOf_24 (by decide) (fun _ => ?_) (fun _ => ?_)
    · refine T_aload_n (pc := 30) 0 dX12_nearestOf_30 rfl rfl ?_
      refine T_iload_n (pc := 31) 1 dX12_nearestOf_31 rfl rfl ?_
      refine T_iload (pc := 32) 5 dX12_nearestOf_32 rfl ?_
      refine T_callSi (pc := 34) (rest := []) (Rn_V (pc := 34) (as := [.int v1, .int v5]) (rest := []) (ctX12_farOf σ v1 v5) rfl rfl mv_X12_farOf hw1881 rfl ⟨Nat.le_of_ble_eq_true rfl, Nat.le_of_ble_eq_true rfl⟩ (Nat.le_of_ble_eq_true rfl) dX12_nearestOf_34 rfl) rfl (fun r2 => ?_)
      refine T_istore (pc := 37) (lv' := [(0, .ref 10), (1, .int v1), (2, .int v2), (3, .int v3), (4, .int v4), (5, .int v5), (6, .int r2.1)]) dX12_nearestOf_37 (Nat.le_of_ble_eq_true rfl) rfl ?_
      refine T_iload_n (pc := 39) 3 dX12_nearestOf_39 rfl rfl ?_
      refine T_iconst (pc := 40) (v := -1) dX12_nearestOf_40 (by decide) ?_
      refine T_icmp_eq (pc := 41) 54 dX12_nearestOf_41 (by decide) (fun _ => ?_) (fun _ => ?_)
      · refine T_iload (pc := 54) 5 dX12_nearestOf_54 rfl ?_
        refine T_istore_n (pc := 56) (lv' := [(0, .ref 10), (1, .int v1), (2, .int v2), (3, .int v5), (4, .int v4), (5, .int v5), (6, .int r2.1)]) dX12_nearestOf_56 rfl (Nat.le_of_ble_eq_true rfl) rfl ?_
        refine T_iload (pc := 57) 6 dX12_nearestOf_57 rfl ?_
        refine T_istore (pc := 59) (lv' := [(0, .ref 10), (1, .int v1), (2, .int v2), (3, .int v5), (4, .int r2.1), (5, .int v5), (6, .int r2.1)]) dX12_nearestOf_59 (Nat.le_of_ble_eq_true rfl) rfl ?_
        refine T_iinc (pc := 61) (y := 1) (lv' := [(0, .ref 10), (1, .int v1), (2, .int v2), (3, .int v5), (4, .int r2.1), (5, .int (v5 + (1 : Int32))), (6, .int r2.1)]) 5 dX12_nearestOf_61 (by decide) rfl (Nat.le_of_ble_eq_true rfl) rfl ?_
        refine T_goto (pc := 64) 8 dX12_nearestOf_64 (by decide) ?_
        refine T_pick (lv' := [(0, .ref 10), (1, .int v1), (2, .int v2), (3, .int v5), (4, .int r2.1), (5, .int (v5 + (1 : Int32)))]) [0, 1, 2, 3, 4, 5] rfl ?_
        exact hkb r2.2 v5 r2.1 (v5 + (1 : Int32))
      · refine T_iload (pc := 44) 6 dX12_nearestOf_44 rfl ?_
        refine T_iload (pc := 46) 4 dX12_nearestOf_46 rfl ?_
        refine T_icmp_lt (pc := 48) 54 dX12_nearestOf_48 (by decide) (fun _ => ?_) (fun _ => ?_)
        · refine T_iload (pc := 54) 5 dX12_nearestOf_54 rfl ?_
          refine T_istore_n (pc := 56) (lv' := [(0, .ref 10), (1, .int v1), (2, .int v2), (3, .int v5), (4, .int v4), (5, .int v5), (6, .int r2.1)]) dX12_nearestOf_56 rfl (Nat.le_of_ble_eq_true rfl) rfl ?_
          refine T_iload (pc := 57) 6 dX12_nearestOf_57 rfl ?_
          refine T_istore (pc := 59) (lv' := [(0, .ref 10), (1, .int v1), (2, .int v2), (3, .int v5), (4, .int r2.1), (5, .int v5), (6, .int r2.1)]) dX12_nearestOf_59 (Nat.le_of_ble_eq_true rfl) rfl ?_
          refine T_iinc (pc := 61) (y := 1) (lv' := [(0, .ref 10), (1, .int v1), (2, .int v2), (3, .int v5), (4, .int r2.1), (5, .int (v5 + (1 : Int32))), (6, .int r2.1)]) 5 dX12_nearestOf_61 (by decide) rfl (Nat.le_of_ble_eq_true rfl) rfl ?_
          refine T_goto (pc := 64) 8 dX12_nearestOf_64 (by decide) ?_
          refine T_pick (lv' := [(0, .ref 10), (1, .int v1), (2, .int v2), (3, .int v5), (4, .int r2.1), (5, .int (v5 + (1 : Int32)))]) [0, 1, 2, 3, 4, 5] rfl ?_
          exact hkb r2.2 v5 r2.1 (v5 + (1 : Int32))
        · refine T_goto (pc := 51) 61 dX12_nearestOf_51 (by decide) ?_
          refine T_iinc (pc := 61) (y := 1) (lv' := [(0, .ref 10), (1, .int v1), (2, .int v2), (3, .int v3), (4, .int v4), (5, .int (v5 + (1 : Int32))), (6, .int r2.1)]) 5 dX12_nearestOf_61 (by decide) rfl (Nat.le_of_ble_eq_true rfl) rfl ?_
          refine T_goto (pc := 64) 8 dX12_nearestOf_64 (by decide) ?_
          refine T_pick (lv' := [(0, .ref 10), (1, .int v1), (2, .int v2), (3, .int v3), (4, .int v4), (5, .int (v5 + (1 : Int32)))]) [0, 1, 2, 3, 4, 5] rfl ?_
          exact hkb r2.2 v3 v4 (v5 + (1 : Int32))
    · refine T_goto (pc := 27) 61 dX12_nearestOf_27 (by decide) ?_
      refine T_iinc (pc := 61) (y := 1) (lv' := [(0, .ref 10), (1, .int v1), (2, .int v2), (3, .int v3), (4, .int v4), (5, .int (v5 + (1 : Int32)))]) 5 dX12_nearestOf_61 (by decide) rfl (Nat.le_of_ble_eq_true rfl) rfl ?_
      refine T_goto (pc := 64) 8 dX12_nearestOf_64 (by decide) ?_
      exact hkb σ v3 v4 (v5 + (1 : Int32))
set_option maxRecDepth 100000 in
set_option maxHeartbeats 4000000 in
theorem fX12_nearestOf_P8_T (v1 : Int32) (v2 : Int32) (σ : St) (v3 : Int32) (v4 : Int32) (v5 : Int32) : T kX12_nearestOf cSi σ 8 [(0, .ref 10), (1, .int v1), (2, .int v2), (3, .int v3), (4, .int v4), (5, .int v5)] [] (fX12_nearestOf_P8 v1 v2 σ v3 v4 v5) :=
  it_T (S := (fun t : St × Int32 × Int32 × Int32 => t.1)) (lv := fun t : St × Int32 × Int32 × Int32 => [(0, .ref 10), (1, .int v1), (2, .int v2), (3, .int t.2.1), (4, .int t.2.2.1), (5, .int t.2.2.2)]) (st := fun _ => []) (fun kb hkb t => fX12_nearestOf_L8_T v1 v2 (hkb := fun σ v3 v4 v5 => hkb (σ, v3, v4, v5)) t.1 t.2.1 t.2.2.1 t.2.2.2) FU (σ, v3, v4, v5)
set_option maxRecDepth 100000 in
set_option maxHeartbeats 4000000 in
theorem ctX12_nearestOf (σ : St) (p0 : Int32) (p1 : Int32) : Ct yX12_nearestOf kX12_nearestOf [.ref 10, .int p0, .int p1] σ cSi (fX12_nearestOf σ p0 p1) := by
  refine Ct.of (by decide +kernel) rfl rfl (Nat.le_of_ble_eq_true rfl) ?_
  unfold fX12_nearestOf
  show T _ _ _ 0 [(0, .ref 10), (1, .int p0), (2, .int p1)] [] _
  refine T_iconst (pc := 0) (v := -1) dX12_nearestOf_0 (by decide) ?_
  refine T_istore_n (pc := 1) (lv' := [(0, .ref 10), (1, .int p0), (2, .int p1), (3, .int (-1 : Int32))]) dX12_nearestOf_1 rfl (Nat.le_of_ble_eq_true rfl) rfl ?_
  refine T_iconst (pc := 2) (v := 0) dX12_nearestOf_2 (by decide) ?_
  refine T_istore (pc := 3) (lv' := [(0, .ref 10), (1, .int p0), (2, .int p1), (3, .int (-1 : Int32)), (4, .int (0 : Int32))]) dX12_nearestOf_3 (Nat.le_of_ble_eq_true rfl) rfl ?_
  refine T_iconst (pc := 5) (v := 0) dX12_nearestOf_5 (by decide) ?_
  refine T_istore (pc := 6) (lv' := [(0, .ref 10), (1, .int p0), (2, .int p1), (3, .int (-1 : Int32)), (4, .int (0 : Int32)), (5, .int (0 : Int32))]) dX12_nearestOf_6 (Nat.le_of_ble_eq_true rfl) rfl ?_
  exact fX12_nearestOf_P8_T p0 p1 σ (-1 : Int32) (0 : Int32) (0 : Int32)
set_option maxRecDepth 100000 in
set_option maxHeartbeats 4000000 in
theorem fX12_kindOf_L16_T (v1 : Int32) (v2 : Int32) (σ : St) {k1 : Int32 → Option (Int32 × St)} {kb : Int32 → Int32 → Option (Int32 × St)} (hk1 : ∀ (w3 : Int32), T kX12_kindOf cSi σ 59 [(0, .ref 10), (1, .int v1), (2, .int v2), (3, .int w3)] [] (k1 w3)) (hkb : ∀ (w3 : Int32) (w4 : Int32), T kX12_kindOf cSi σ 16 [(0, .ref 10), (1, .int v1), (2, .int v2), (3, .int w3), (4, .int w4)] [] (kb w3 w4)) (v3 : Int32) (v4 : Int32) : T kX12_kindOf cSi σ 16 [(0, .ref 10), (1, .int v1), (2, .int v2), (3, .int v3), (4, .int v4)] [] (fX12_kindOf_L16 v1 v2 k1 kb σ v3 v4) := by
  unfold fX12_kindOf_L16
  refine T_iload (pc := 16) 4 dX12_kindOf_16 rfl ?_
  refine T_sipush (pc := 18) (v := 128) dX12_kindOf_18 (by decide) ?_
  refine T_icmp_ge (pc := 21) 59 dX12_kindOf_21 (by decide) (fun _ => ?_) (fun _ => ?_)
  · refine T_pick (lv' := [(0, .ref 10), (1, .int v1), (2, .int v2), (3, .int v3)]) [0, 1, 2, 3] rfl ?_
    exact hk1 v3
  · refine T_iload_n (pc := 24) 3 dX12_kindOf_24 rfl rfl ?_
    refine T_aload_n (pc := 25) 0 dX12_kindOf_25 rfl rfl ?_
    refine T_iload_n (pc := 26) 1 dX12_kindOf_26 rfl rfl ?_
    refine T_iload_n (pc := 27) 2 dX12_kindOf_27 rfl rfl ?_
    refine T_iload (pc := 28) 4 dX12_kindOf_28 rfl ?_
    refine T_callPz (pc := 30) (rest := [.int v3]) (Rn_V (pc := 30) (as := [.int v1, .int v2, .int v4]) (rest := [.int v3]) (ctX12_isOfOthers σ v1 v2 v4) rfl rfl mv_X12_isOfOthers hw1919 rfl ⟨Nat.le_of_ble_eq_true rfl, Nat.le_of_ble_eq_true rfl⟩ (Nat.le_of_ble_eq_true rfl) dX12_kindOf_30 rfl) rfl (fun x2 => ?_)
    refine T_if_eq (pc := 33) 50 dX12_kindOf_33 (by decide) (fun _ => ?_) (fun _ => ?_)
    · refine T_iconst (pc := 50) (v := 0) dX12_kindOf_50 (by decide) ?_
      refine T_iadd (pc := 51) dX12_kindOf_51 ?_
      refine T_letI (fun x3 => ?_)
      refine T_istore_n (pc := 52) (lv' := [(0, .ref 10), (1, .int v1), (2, .int v2), (3, .int x3), (4, .int v4)]) dX12_kindOf_52 rfl (Nat.le_of_ble_eq_true rfl) rfl ?_
      refine T_iinc (pc := 53) (y := 1) (lv' := [(0, .ref 10), (1, .int v1), (2, .int v2), (3, .int x3), (4, .int (v4 + (1 : Int32)))]) 4 dX12_kindOf_53 (by decide) rfl (Nat.le_of_ble_eq_true rfl) rfl ?_
      refine T_goto (pc := 56) 16 dX12_kindOf_56 (by decide) ?_
      exact hkb x3 (v4 + (1 : Int32))
    · refine T_aload_n (pc := 36) 0 dX12_kindOf_36 rfl rfl ?_
      refine T_iload_n (pc := 37) 1 dX12_kindOf_37 rfl rfl ?_
      refine T_iload (pc := 38) 4 dX12_kindOf_38 rfl ?_
      refine T_callPz (pc := 40) (rest := [.int v3]) (Rn_V (pc := 40) (as := [.int v1, .int v4]) (rest := [.int v3]) (ctX12_endsIt σ v1 v4) rfl rfl mv_X12_endsIt hw1865 rfl ⟨Nat.le_of_ble_eq_true rfl, Nat.le_of_ble_eq_true rfl⟩ (Nat.le_of_ble_eq_true rfl) dX12_kindOf_40 rfl) rfl (fun x4 => ?_)
      refine T_if_eq (pc := 43) 50 dX12_kindOf_43 (by decide) (fun _ => ?_) (fun _ => ?_)
      · refine T_iconst (pc := 50) (v := 0) dX12_kindOf_50 (by decide) ?_
        refine T_iadd (pc := 51) dX12_kindOf_51 ?_
        refine T_letI (fun x5 => ?_)
        refine T_istore_n (pc := 52) (lv' := [(0, .ref 10), (1, .int v1), (2, .int v2), (3, .int x5), (4, .int v4)]) dX12_kindOf_52 rfl (Nat.le_of_ble_eq_true rfl) rfl ?_
        refine T_iinc (pc := 53) (y := 1) (lv' := [(0, .ref 10), (1, .int v1), (2, .int v2), (3, .int x5), (4, .int (v4 + (1 : Int32)))]) 4 dX12_kindOf_53 (by decide) rfl (Nat.le_of_ble_eq_true rfl) rfl ?_
        refine T_goto (pc := 56) 16 dX12_kindOf_56 (by decide) ?_
        exact hkb x5 (v4 + (1 : Int32))
      · refine T_iconst (pc := 46) (v := 1) dX12_kindOf_46 (by decide) ?_
        refine T_goto (pc := 47) 51 dX12_kindOf_47 (by decide) ?_
        refine T_iadd (pc := 51) dX12_kindOf_51 ?_
        refine T_letI (fun x6 => ?_)
        refine T_istore_n (pc := 52) (lv' := [(0, .ref 10), (1, .int v1), (2, .int v2), (3, .int x6), (4, .int v4)]) dX12_kindOf_52 rfl (Nat.le_of_ble_eq_true rfl) rfl ?_
        refine T_iinc (pc := 53) (y := 1) (lv' := [(0, .ref 10), (1, .int v1), (2, .int v2), (3, .int x6), (4, .int (v4 + (1 : Int32)))]) 4 dX12_kindOf_53 (by decide) rfl (Nat.le_of_ble_eq_true rfl) rfl ?_
        refine T_goto (pc := 56) 16 dX12_kindOf_56 (by decide) ?_
        exact hkb x6 (v4 + (1 : Int32))
set_option maxRecDepth 100000 in
set_option maxHeartbeats 4000000 in
theorem fX12_kindOf_P16_T (v1 : Int32) (v2 : Int32) (σ : St) {k1 : Int32 → Option (Int32 × St)} (hk1 : ∀ (w3 : Int32), T kX12_kindOf cSi σ 59 [(0, .ref 10), (1, .int v1), (2, .int v2), (3, .int w3)] [] (k1 w3)) (v3 : Int32) (v4 : Int32) : T kX12_kindOf cSi σ 16 [(0, .ref 10), (1, .int v1), (2, .int v2), (3, .int v3), (4, .int v4)] [] (fX12_kindOf_P16 v1 v2 k1 σ v3 v4) :=
  it_T (S := (fun _ : Int32 × Int32 => σ)) (lv := fun t : Int32 × Int32 => [(0, .ref 10), (1, .int v1), (2, .int v2), (3, .int t.1), (4, .int t.2)]) (st := fun _ => []) (fun kb hkb t => fX12_kindOf_L16_T v1 v2 (hk1 := hk1) (hkb := fun v3 v4 => hkb (v3, v4)) σ t.1 t.2) FU (v3, v4)
set_option maxRecDepth 100000 in
set_option maxHeartbeats 4000000 in
theorem fX12_kindOf_L83_T (v1 : Int32) (v2 : Int32) (σ : St) {k1 : Unit → Option (Int32 × St)} {kb : Int32 → Option (Int32 × St)} (hk1 : ∀ (_u : Unit), T kX12_kindOf cSi σ 107 [(0, .ref 10), (1, .int v1), (2, .int v2)] [] (k1 ())) (hkb : ∀ (w4 : Int32), T kX12_kindOf cSi σ 83 [(0, .ref 10), (1, .int v1), (2, .int v2), (4, .int w4)] [] (kb w4)) (v4 : Int32) : T kX12_kindOf cSi σ 83 [(0, .ref 10), (1, .int v1), (2, .int v2), (4, .int v4)] [] (fX12_kindOf_L83 v1 v2 k1 kb σ v4) := by
  unfold fX12_kindOf_L83
  refine T_iload (pc := 83) 3 dX12_kindOf_83 rfl ?_
  refine T_iload_n (pc := 85) 1 dX12_kindOf_85 rfl rfl ?_
  refine T_icmp_ge (pc := 86) 107 dX12_kindOf_86 (by decide) (fun _ => ?_) (fun _ => ?_)
  · refine T_pick (lv' := [(0, .ref 10), (1, .int v1), (2, .int v2)]) [0, 1, 2] rfl ?_
    exact hk1 ()
  · refine T_aload_n (pc := 89) 0 dX12_kindOf_89 rfl rfl ?_
    refine T_iload_n (pc := 90) 1 dX12_kindOf_90 rfl rfl ?_
    refine T_iload (pc := 91) 3 dX12_kindOf_91 rfl ?_
    refine T_callPz (pc := 93) (rest := []) (Rn_V (pc := 93) (as := [.int v1, .int v4]) (rest := []) (ctX12_endsIt σ v1 v4) rfl rfl mv_X12_endsIt hw1865 rfl ⟨Nat.le_of_ble_eq_true rfl, Nat.le_of_ble_eq_true rfl⟩ (Nat.le_of_ble_eq_true rfl) dX12_kindOf_93 rfl) rfl (fun x9 => ?_)
    refine T_if_eq (pc := 96) 101 dX12_kindOf_96 (by decide) (fun _ => ?_) (fun _ => ?_)
    · refine T_iinc (pc := 101) (y := 1) (lv' := [(0, .ref 10), (1, .int v1), (2, .int v2), (4, .int (v4 + (1 : Int32)))]) 3 dX12_kindOf_101 (by decide) rfl (Nat.le_of_ble_eq_true rfl) rfl ?_
      refine T_goto (pc := 104) 83 dX12_kindOf_104 (by decide) ?_
      exact hkb (v4 + (1 : Int32))
    · refine T_iconst (pc := 99) (v := 3) dX12_kindOf_99 (by decide) ?_
      exact T_ireturn (pc := 100) rfl dX12_kindOf_100 rfl
set_option maxRecDepth 100000 in
set_option maxHeartbeats 4000000 in
theorem fX12_kindOf_P83_T (v1 : Int32) (v2 : Int32) (σ : St) {k1 : Unit → Option (Int32 × St)} (hk1 : ∀ (_u : Unit), T kX12_kindOf cSi σ 107 [(0, .ref 10), (1, .int v1), (2, .int v2)] [] (k1 ())) (v4 : Int32) : T kX12_kindOf cSi σ 83 [(0, .ref 10), (1, .int v1), (2, .int v2), (4, .int v4)] [] (fX12_kindOf_P83 v1 v2 k1 σ v4) :=
  it_T (S := (fun _ : Int32 => σ)) (lv := fun t : Int32 => [(0, .ref 10), (1, .int v1), (2, .int v2), (4, .int t)]) (st := fun _ => []) (fun kb hkb t => fX12_kindOf_L83_T v1 v2 (hk1 := hk1) (hkb := fun v4 => hkb v4) σ t) FU v4
set_option maxRecDepth 100000 in
set_option maxHeartbeats 4000000 in
theorem ctX12_kindOf (σ : St) (p0 : Int32) (p1 : Int32) : Ct yX12_kindOf kX12_kindOf [.ref 10, .int p0, .int p1] σ cSi (fX12_kindOf σ p0 p1) := by
  refine Ct.of (by decide +kernel) rfl rfl (Nat.le_of_ble_eq_true rfl) ?_
  unfold fX12_kindOf
  show T _ _ _ 0 [(0, .ref 10), (1, .int p0), (2, .int p1)] [] _
  refine T_aload_n (pc := 0) 0 dX12_kindOf_0 rfl rfl ?_
  refine T_getA (pc := 1) fd_10_22 hw1525 dX12_kindOf_1 ?_
  refine T_iload_n (pc := 4) 1 dX12_kindOf_4 rfl rfl ?_
  refine T_iald (pc := 5) rfl dX12_kindOf_5 (fun x1 => ?_)
  refine T_if_ne (pc := 6) 11 dX12_kindOf_6 (by decide) (fun _ => ?_) (fun _ => ?_)
  · refine T_iconst (pc := 11) (v := 0) dX12_kindOf_11 (by decide) ?_
    refine T_istore_n (pc := 12) (lv' := [(0, .ref 10), (1, .int p0), (2, .int p1), (3, .int (0 : Int32))]) dX12_kindOf_12 rfl (Nat.le_of_ble_eq_true rfl) rfl ?_
    refine T_iconst (pc := 13) (v := 0) dX12_kindOf_13 (by decide) ?_
    refine T_istore (pc := 14) (lv' := [(0, .ref 10), (1, .int p0), (2, .int p1), (3, .int (0 : Int32)), (4, .int (0 : Int32))]) dX12_kindOf_14 (Nat.le_of_ble_eq_true rfl) rfl ?_
    refine fX12_kindOf_P16_T p0 p1 (hk1 := fun x7 => ?_) σ (0 : Int32) (0 : Int32)
    · refine T_iload_n (pc := 59) 3 dX12_kindOf_59 rfl rfl ?_
      refine T_if_le (pc := 60) 74 dX12_kindOf_60 (by decide) (fun _ => ?_) (fun _ => ?_)
      · refine T_iload_n (pc := 74) 1 dX12_kindOf_74 rfl rfl ?_
        refine T_bipush (pc := 75) (v := 16) dX12_kindOf_75 (by decide) ?_
        refine T_idiv (pc := 77) dX12_kindOf_77 ?_
        refine T_bipush (pc := 78) (v := 16) dX12_kindOf_78 (by decide) ?_
        refine T_imul (pc := 80) dX12_kindOf_80 ?_
        refine T_letI (fun x8 => ?_)
        refine T_istore (pc := 81) (lv' := [(0, .ref 10), (1, .int p0), (2, .int p1), (3, .int x7), (4, .int x8)]) dX12_kindOf_81 (Nat.le_of_ble_eq_true rfl) rfl ?_
        refine T_pick (lv' := [(0, .ref 10), (1, .int p0), (2, .int p1), (4, .int x8)]) [0, 1, 2, 4] rfl ?_
        refine fX12_kindOf_P83_T p0 p1 (hk1 := fun _u => ?_) σ x8
        · refine T_aload_n (pc := 107) 0 dX12_kindOf_107 rfl rfl ?_
          refine T_iload_n (pc := 108) 1 dX12_kindOf_108 rfl rfl ?_
          refine T_iload_n (pc := 109) 2 dX12_kindOf_109 rfl rfl ?_
          refine T_callSi (pc := 110) (rest := []) (Rn_V (pc := 110) (as := [.int p0, .int p1]) (rest := []) (ctX12_nearestOf σ p0 p1) rfl rfl mv_X12_nearestOf hw1923 rfl ⟨Nat.le_of_ble_eq_true rfl, Nat.le_of_ble_eq_true rfl⟩ (Nat.le_of_ble_eq_true rfl) dX12_kindOf_110 rfl) rfl (fun r10 => ?_)
          refine T_istore (pc := 113) (lv' := [(0, .ref 10), (1, .int p0), (2, .int p1), (4, .int r10.1)]) dX12_kindOf_113 (Nat.le_of_ble_eq_true rfl) rfl ?_
          refine T_iload (pc := 115) 3 dX12_kindOf_115 rfl ?_
          refine T_iconst (pc := 117) (v := -1) dX12_kindOf_117 (by decide) ?_
          refine T_icmp_eq (pc := 118) 139 dX12_kindOf_118 (by decide) (fun _ => ?_) (fun _ => ?_)
          · refine T_iconst (pc := 139) (v := 5) dX12_kindOf_139 (by decide) ?_
            exact T_ireturn (pc := 140) rfl dX12_kindOf_140 rfl
          · refine T_aload_n (pc := 121) 0 dX12_kindOf_121 rfl rfl ?_
            refine T_iload_n (pc := 122) 1 dX12_kindOf_122 rfl rfl ?_
            refine T_iload (pc := 123) 3 dX12_kindOf_123 rfl ?_
            refine T_callSi (pc := 125) (rest := []) (Rn_V (pc := 125) (as := [.int p0, .int r10.1]) (rest := []) (ctX12_farOf r10.2 p0 r10.1) rfl rfl mv_X12_farOf hw1881 rfl ⟨Nat.le_of_ble_eq_true rfl, Nat.le_of_ble_eq_true rfl⟩ (Nat.le_of_ble_eq_true rfl) dX12_kindOf_125 rfl) rfl (fun r11 => ?_)
            refine T_aload_n (pc := 128) 0 dX12_kindOf_128 rfl rfl ?_
            refine T_getI (pc := 129) fd_10_36 hw1539 dX12_kindOf_129 ?_
            refine T_icmp_gt (pc := 132) 139 dX12_kindOf_132 (by decide) (fun _ => ?_) (fun _ => ?_)
            · refine T_iconst (pc := 139) (v := 5) dX12_kindOf_139 (by decide) ?_
              exact T_ireturn (pc := 140) rfl dX12_kindOf_140 rfl
            · refine T_iconst (pc := 135) (v := 4) dX12_kindOf_135 (by decide) ?_
              refine T_goto (pc := 136) 140 dX12_kindOf_136 (by decide) ?_
              exact T_ireturn (pc := 140) rfl dX12_kindOf_140 rfl
      · refine T_iload_n (pc := 63) 3 dX12_kindOf_63 rfl rfl ?_
        refine T_iconst (pc := 64) (v := 1) dX12_kindOf_64 (by decide) ?_
        refine T_icmp_ne (pc := 65) 72 dX12_kindOf_65 (by decide) (fun _ => ?_) (fun _ => ?_)
        · refine T_iconst (pc := 72) (v := 2) dX12_kindOf_72 (by decide) ?_
          exact T_ireturn (pc := 73) rfl dX12_kindOf_73 rfl
        · refine T_iconst (pc := 68) (v := 1) dX12_kindOf_68 (by decide) ?_
          refine T_goto (pc := 69) 73 dX12_kindOf_69 (by decide) ?_
          exact T_ireturn (pc := 73) rfl dX12_kindOf_73 rfl
  · refine T_iconst (pc := 9) (v := 0) dX12_kindOf_9 (by decide) ?_
    exact T_ireturn (pc := 10) rfl dX12_kindOf_10 rfl
set_option maxRecDepth 100000 in
set_option maxHeartbeats 4000000 in
theorem ctX12_kind (σ : St) (p0 : Int32) (p1 : Int32) : Ct yX12_kind kX12_kind [.ref 10, .int p0, .int p1] σ cSi (fX12_kind σ p0 p1) := by
  refine Ct.of (by decide +kernel) rfl rfl (Nat.le_of_ble_eq_true rfl) ?_
  unfold fX12_kind
  show T _ _ _ 0 [(0, .ref 10), (1, .int p0), (2, .int p1)] [] _
  refine T_aload_n (pc := 0) 0 dX12_kind_0 rfl rfl ?_
  refine T_iconst (pc := 1) (v := 0) dX12_kind_1 (by decide) ?_
  refine T_putI (pc := 2) fd_10_0 hw1503 dX12_kind_2 ?_
  refine T_letS (fun s1 => ?_)
  refine T_aload_n (pc := 5) 0 dX12_kind_5 rfl rfl ?_
  refine T_iload_n (pc := 6) 1 dX12_kind_6 rfl rfl ?_
  refine T_iload_n (pc := 7) 2 dX12_kind_7 rfl rfl ?_
  refine T_callPz (pc := 8) (rest := []) (Rn_V (pc := 8) (as := [.int p0, .int p1]) (rest := []) (ctX12_isOf s1 p0 p1) rfl rfl mv_X12_isOf hw1907 rfl ⟨Nat.le_of_ble_eq_true rfl, Nat.le_of_ble_eq_true rfl⟩ (Nat.le_of_ble_eq_true rfl) dX12_kind_8 rfl) rfl (fun x2 => ?_)
  refine T_if_eq (pc := 11) 23 dX12_kind_11 (by decide) (fun _ => ?_) (fun _ => ?_)
  · refine T_iconst (pc := 23) (v := -1) dX12_kind_23 (by decide) ?_
    exact T_ireturn (pc := 24) rfl dX12_kind_24 rfl
  · refine T_aload_n (pc := 14) 0 dX12_kind_14 rfl rfl ?_
    refine T_iload_n (pc := 15) 1 dX12_kind_15 rfl rfl ?_
    refine T_iload_n (pc := 16) 2 dX12_kind_16 rfl rfl ?_
    refine T_callSi (pc := 17) (rest := []) (Rn_V (pc := 17) (as := [.int p0, .int p1]) (rest := []) (ctX12_kindOf s1 p0 p1) rfl rfl mv_X12_kindOf hw1915 rfl ⟨Nat.le_of_ble_eq_true rfl, Nat.le_of_ble_eq_true rfl⟩ (Nat.le_of_ble_eq_true rfl) dX12_kind_17 rfl) rfl (fun r3 => ?_)
    refine T_goto (pc := 20) 24 dX12_kind_20 (by decide) ?_
    exact T_ireturn (pc := 24) rfl dX12_kind_24 rfl
set_option maxRecDepth 100000 in
set_option maxHeartbeats 4000000 in
theorem fX12_kinds_L29_T (v1 : Int32) (v2 : Int32) (σ : St) {kb : St → Int32 → Int32 → Option (Int32 × St)} (hkb : ∀ (σ' : St) (w3 : Int32) (w4 : Int32), T kX12_kinds cSi σ' 29 [(0, .ref 10), (1, .int v1), (2, .int v2), (3, .int w3), (4, .int w4)] [] (kb σ' w3 w4)) (v3 : Int32) (v4 : Int32) : T kX12_kinds cSi σ 29 [(0, .ref 10), (1, .int v1), (2, .int v2), (3, .int v3), (4, .int v4)] [] (fX12_kinds_L29 v1 v2 kb σ v3 v4) := by
  unfold fX12_kinds_L29
  refine T_iload (pc := 29) 4 dX12_kinds_29 rfl ?_
  refine T_sipush (pc := 31) (v := 128) dX12_kinds_31 (by decide) ?_
  refine T_icmp_ge (pc := 34) 72 dX12_kinds_34 (by decide) (fun _ => ?_) (fun _ => ?_)
  · refine T_iload_n (pc := 72) 3 dX12_kinds_72 rfl rfl ?_
    exact T_ireturn (pc := 73) rfl dX12_kinds_73 rfl
  · refine T_iload_n (pc := 37) 3 dX12_kinds_37 rfl rfl ?_
    refine T_aload_n (pc := 38) 0 dX12_kinds_38 rfl rfl ?_
    refine T_iload (pc := 39) 4 dX12_kinds_39 rfl ?_
    refine T_iload_n (pc := 41) 1 dX12_kinds_41 rfl rfl ?_
    refine T_callPz (pc := 42) (rest := [.int v3]) (Rn_V (pc := 42) (as := [.int v4, .int v1]) (rest := [.int v3]) (ctX12_isOf σ v4 v1) rfl rfl mv_X12_isOf hw1907 rfl ⟨Nat.le_of_ble_eq_true rfl, Nat.le_of_ble_eq_true rfl⟩ (Nat.le_of_ble_eq_true rfl) dX12_kinds_42 rfl) rfl (fun x4 => ?_)
    refine T_if_eq (pc := 45) 63 dX12_kinds_45 (by decide) (fun _ => ?_) (fun _ => ?_)
    · refine T_iconst (pc := 63) (v := 0) dX12_kinds_63 (by decide) ?_
      refine T_iadd (pc := 64) dX12_kinds_64 ?_
      refine T_letI (fun x5 => ?_)
      refine T_istore_n (pc := 65) (lv' := [(0, .ref 10), (1, .int v1), (2, .int v2), (3, .int x5), (4, .int v4)]) dX12_kinds_65 rfl (Nat.le_of_ble_eq_true rfl) rfl ?_
      refine T_iinc (pc := 66) (y := 1) (lv' := [(0, .ref 10), (1, .int v1), (2, .int v2), (3, .int x5), (4, .int (v4 + (1 : Int32)))]) 4 dX12_kinds_66 (by decide) rfl (Nat.le_of_ble_eq_true rfl) rfl ?_
      refine T_goto (pc := 69) 29 dX12_kinds_69 (by decide) ?_
      exact hkb σ x5 (v4 + (1 : Int32))
    · refine T_aload_n (pc := 48) 0 dX12_kinds_48 rfl rfl ?_
      refine T_iload (pc := 49) 4 dX12_kinds_49 rfl ?_
      refine T_iload_n (pc := 51) 1 dX12_kinds_51 rfl rfl ?_
      refine T_callSi (pc := 52) (rest := [.int v3]) (Rn_V (pc := 52) (as := [.int v4, .int v1]) (rest := [.int v3]) (ctX12_kindOf σ v4 v1) rfl rfl mv_X12_kindOf hw1915 rfl ⟨Nat.le_of_ble_eq_true rfl, Nat.le_of_ble_eq_true rfl⟩ (Nat.le_of_ble_eq_true rfl) dX12_kinds_52 rfl) rfl (fun r6 => ?_)
      refine T_iload_n (pc := 55) 2 dX12_kinds_55 rfl rfl ?_
      refine T_icmp_ne (pc := 56) 63 dX12_kinds_56 (by decide) (fun _ => ?_) (fun _ => ?_)
      · refine T_iconst (pc := 63) (v := 0) dX12_kinds_63 (by decide) ?_
        refine T_iadd (pc := 64) dX12_kinds_64 ?_
        refine T_letI (fun x7 => ?_)
        refine T_istore_n (pc := 65) (lv' := [(0, .ref 10), (1, .int v1), (2, .int v2), (3, .int x7), (4, .int v4)]) dX12_kinds_65 rfl (Nat.le_of_ble_eq_true rfl) rfl ?_
        refine T_iinc (pc := 66) (y := 1) (lv' := [(0, .ref 10), (1, .int v1), (2, .int v2), (3, .int x7), (4, .int (v4 + (1 : Int32)))]) 4 dX12_kinds_66 (by decide) rfl (Nat.le_of_ble_eq_true rfl) rfl ?_
        refine T_goto (pc := 69) 29 dX12_kinds_69 (by decide) ?_
        exact hkb r6.2 x7 (v4 + (1 : Int32))
      · refine T_iconst (pc := 59) (v := 1) dX12_kinds_59 (by decide) ?_
        refine T_goto (pc := 60) 64 dX12_kinds_60 (by decide) ?_
        refine T_iadd (pc := 64) dX12_kinds_64 ?_
        refine T_letI (fun x8 => ?_)
        refine T_istore_n (pc := 65) (lv' := [(0, .ref 10), (1, .int v1), (2, .int v2), (3, .int x8), (4, .int v4)]) dX12_kinds_65 rfl (Nat.le_of_ble_eq_true rfl) rfl ?_
        refine T_iinc (pc := 66) (y := 1) (lv' := [(0, .ref 10), (1, .int v1), (2, .int v2), (3, .int x8), (4, .int (v4 + (1 : Int32)))]) 4 dX12_kinds_66 (by decide) rfl (Nat.le_of_ble_eq_true rfl) rfl ?_
        refine T_goto (pc := 69) 29 dX12_kinds_69 (by decide) ?_
        exact hkb r6.2 x8 (v4 + (1 : Int32))
set_option maxRecDepth 100000 in
set_option maxHeartbeats 4000000 in
theorem fX12_kinds_P29_T (v1 : Int32) (v2 : Int32) (σ : St) (v3 : Int32) (v4 : Int32) : T kX12_kinds cSi σ 29 [(0, .ref 10), (1, .int v1), (2, .int v2), (3, .int v3), (4, .int v4)] [] (fX12_kinds_P29 v1 v2 σ v3 v4) :=
  it_T (S := (fun t : St × Int32 × Int32 => t.1)) (lv := fun t : St × Int32 × Int32 => [(0, .ref 10), (1, .int v1), (2, .int v2), (3, .int t.2.1), (4, .int t.2.2)]) (st := fun _ => []) (fun kb hkb t => fX12_kinds_L29_T v1 v2 (hkb := fun σ v3 v4 => hkb (σ, v3, v4)) t.1 t.2.1 t.2.2) FU (σ, v3, v4)
set_option maxRecDepth 100000 in
set_option maxHeartbeats 4000000 in
theorem ctX12_kinds (σ : St) (p0 : Int32) (p1 : Int32) : Ct yX12_kinds kX12_kinds [.ref 10, .int p0, .int p1] σ cSi (fX12_kinds σ p0 p1) := by
  refine Ct.of (by decide +kernel) rfl rfl (Nat.le_of_ble_eq_true rfl) ?_
  unfold fX12_kinds
  show T _ _ _ 0 [(0, .ref 10), (1, .int p0), (2, .int p1)] [] _
  refine T_aload_n (pc := 0) 0 dX12_kinds_0 rfl rfl ?_
  refine T_iconst (pc := 1) (v := 0) dX12_kinds_1 (by decide) ?_
  refine T_putI (pc := 2) fd_10_0 hw1503 dX12_kinds_2 ?_
  refine T_letS (fun s1 => ?_)
  refine T_aload_n (pc := 5) 0 dX12_kinds_5 rfl rfl ?_
  refine T_iload_n (pc := 6) 1 dX12_kinds_6 rfl rfl ?_
  refine T_callPz (pc := 7) (rest := []) (Rn_V (pc := 7) (as := [.int p0]) (rest := []) (ctX12_areRolls s1 p0) rfl rfl mv_X12_areRolls hw1911 rfl ⟨Nat.le_of_ble_eq_true rfl, Nat.le_of_ble_eq_true rfl⟩ (Nat.le_of_ble_eq_true rfl) dX12_kinds_7 rfl) rfl (fun x2 => ?_)
  refine T_if_eq (pc := 10) 22 dX12_kinds_10 (by decide) (fun _ => ?_) (fun _ => ?_)
  · refine T_iconst (pc := 22) (v := -1) dX12_kinds_22 (by decide) ?_
    exact T_ireturn (pc := 23) rfl dX12_kinds_23 rfl
  · refine T_iload_n (pc := 13) 2 dX12_kinds_13 rfl rfl ?_
    refine T_iconst (pc := 14) (v := 0) dX12_kinds_14 (by decide) ?_
    refine T_iconst (pc := 15) (v := 5) dX12_kinds_15 (by decide) ?_
    refine T_callPz (pc := 16) (rest := []) (Rn_S (pc := 16) (as := [.int p1, .int (0 : Int32), .int (5 : Int32)]) (rest := []) (ctX12_isIn s1 p1 (0 : Int32) (5 : Int32)) ms_X12_isIn hw1689 rfl ⟨Nat.le_of_ble_eq_true rfl, Nat.le_of_ble_eq_true rfl⟩ (Nat.le_of_ble_eq_true rfl) dX12_kinds_16 rfl) rfl (fun x3 => ?_)
    refine T_if_ne (pc := 19) 24 dX12_kinds_19 (by decide) (fun _ => ?_) (fun _ => ?_)
    · refine T_iconst (pc := 24) (v := 0) dX12_kinds_24 (by decide) ?_
      refine T_istore_n (pc := 25) (lv' := [(0, .ref 10), (1, .int p0), (2, .int p1), (3, .int (0 : Int32))]) dX12_kinds_25 rfl (Nat.le_of_ble_eq_true rfl) rfl ?_
      refine T_iconst (pc := 26) (v := 0) dX12_kinds_26 (by decide) ?_
      refine T_istore (pc := 27) (lv' := [(0, .ref 10), (1, .int p0), (2, .int p1), (3, .int (0 : Int32)), (4, .int (0 : Int32))]) dX12_kinds_27 (Nat.le_of_ble_eq_true rfl) rfl ?_
      exact fX12_kinds_P29_T p0 p1 s1 (0 : Int32) (0 : Int32)
    · refine T_iconst (pc := 22) (v := -1) dX12_kinds_22 (by decide) ?_
      exact T_ireturn (pc := 23) rfl dX12_kinds_23 rfl
