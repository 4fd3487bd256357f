/-! methods X12_laySoFar .. X12_next: by program (wip/gen) -/
set_option maxRecDepth 100000 in
set_option maxHeartbeats 4000000 in
theorem fX12_laySoFar_L2_T (σ : St) {k1 : St → Option St} {kb : St → Int32 → Option St} (hk1 : ∀ (σ' : St), T kX12_laySoFar cSv σ' 51 [(0, .ref 10)] [] (k1 σ')) (hkb : ∀ (σ' : St) (w1 : Int32), T kX12_laySoFar cSv σ' 2 [(0, .ref 10), (1, .int w1)] [] (kb σ' w1)) (v1 : Int32) : T kX12_laySoFar cSv σ 2 [(0, .ref 10), (1, .int v1)] [] (fX12_laySoFar_L2 k1 kb σ v1) := by
  unfold fX12_laySoFar_L2
  refine T_iload_n (pc := 2) 1 dX12_laySoFar_2 rfl rfl ?_
  refine T_bipush (pc := 3) (v := 9) dX12_laySoFar_3 (by decide) ?_
  refine T_aload_n (pc := 5) 0 dX12_laySoFar_5 rfl rfl ?_
  refine T_getI (pc := 6) fd_10_42 hw1545 dX12_laySoFar_6 ?_
  refine T_imul (pc := 9) dX12_laySoFar_9 ?_
  refine T_icmp_ge (pc := 10) 51 dX12_laySoFar_10 (by decide) (fun _ => ?_) (fun _ => ?_)
  · refine T_pick (lv' := [(0, .ref 10)]) [0] rfl ?_
    exact hk1 σ
  · refine T_aload_n (pc := 13) 0 dX12_laySoFar_13 rfl rfl ?_
    refine T_getA (pc := 14) fd_10_39 hw1542 dX12_laySoFar_14 ?_
    refine T_iload_n (pc := 17) 1 dX12_laySoFar_17 rfl rfl ?_
    refine T_iload_n (pc := 18) 1 dX12_laySoFar_18 rfl rfl ?_
    refine T_if_ne (pc := 19) 26 dX12_laySoFar_19 (by decide) (fun _ => ?_) (fun _ => ?_)
    · refine T_sipush (pc := 26) (v := 10000) dX12_laySoFar_26 (by decide) ?_
      refine T_iast (pc := 29) rfl dX12_laySoFar_29 ?_
      refine T_letS (fun s1 => ?_)
      refine T_aload_n (pc := 30) 0 dX12_laySoFar_30 rfl rfl ?_
      refine T_getA (pc := 31) fd_10_41 hw1544 dX12_laySoFar_31 ?_
      refine T_iload_n (pc := 34) 1 dX12_laySoFar_34 rfl rfl ?_
      refine T_iload_n (pc := 35) 1 dX12_laySoFar_35 rfl rfl ?_
      refine T_if_ne (pc := 36) 43 dX12_laySoFar_36 (by decide) (fun _ => ?_) (fun _ => ?_)
      · refine T_lconst (pc := 43) (v := 0) dX12_laySoFar_43 (by decide) ?_
        refine T_last (pc := 44) rfl dX12_laySoFar_44 ?_
        refine T_letS (fun s2 => ?_)
        refine T_iinc (pc := 45) (y := 1) (lv' := [(0, .ref 10), (1, .int (v1 + (1 : Int32)))]) 1 dX12_laySoFar_45 (by decide) rfl (Nat.le_of_ble_eq_true rfl) rfl ?_
        refine T_goto (pc := 48) 2 dX12_laySoFar_48 (by decide) ?_
        exact hkb s2 (v1 + (1 : Int32))
      · refine T_lconst (pc := 39) (v := 1) dX12_laySoFar_39 (by decide) ?_
        refine T_goto (pc := 40) 44 dX12_laySoFar_40 (by decide) ?_
        refine T_last (pc := 44) rfl dX12_laySoFar_44 ?_
        refine T_letS (fun s3 => ?_)
        refine T_iinc (pc := 45) (y := 1) (lv' := [(0, .ref 10), (1, .int (v1 + (1 : Int32)))]) 1 dX12_laySoFar_45 (by decide) rfl (Nat.le_of_ble_eq_true rfl) rfl ?_
        refine T_goto (pc := 48) 2 dX12_laySoFar_48 (by decide) ?_
        exact hkb s3 (v1 + (1 : Int32))
    · refine T_iconst (pc := 22) (v := 0) dX12_laySoFar_22 (by decide) ?_
      refine T_goto (pc := 23) 29 dX12_laySoFar_23 (by decide) ?_
      refine T_iast (pc := 29) rfl dX12_laySoFar_29 ?_
      refine T_letS (fun s4 => ?_)
      refine T_aload_n (pc := 30) 0 dX12_laySoFar_30 rfl rfl ?_
      refine T_getA (pc := 31) fd_10_41 hw1544 dX12_laySoFar_31 ?_
      refine T_iload_n (pc := 34) 1 dX12_laySoFar_34 rfl rfl ?_
      refine T_iload_n (pc := 35) 1 dX12_laySoFar_35 rfl rfl ?_
      refine T_if_ne (pc := 36) 43 dX12_laySoFar_36 (by decide) (fun _ => ?_) (fun _ => ?_)
      · refine T_lconst (pc := 43) (v := 0) dX12_laySoFar_43 (by decide) ?_
        refine T_last (pc := 44) rfl dX12_laySoFar_44 ?_
        refine T_letS (fun s5 => ?_)
        refine T_iinc (pc := 45) (y := 1) (lv' := [(0, .ref 10), (1, .int (v1 + (1 : Int32)))]) 1 dX12_laySoFar_45 (by decide) rfl (Nat.le_of_ble_eq_true rfl) rfl ?_
        refine T_goto (pc := 48) 2 dX12_laySoFar_48 (by decide) ?_
        exact hkb s5 (v1 + (1 : Int32))
      · refine T_lconst (pc := 39) (v := 1) dX12_laySoFar_39 (by decide) ?_
        refine T_goto (pc := 40) 44 dX12_laySoFar_40 (by decide) ?_
        refine T_last (pc := 44) rfl dX12_laySoFar_44 ?_
        refine T_letS (fun s6 => ?_)
        refine T_iinc (pc := 45) (y := 1) (lv' := [(0, .ref 10), (1, .int (v1 + (1 : Int32)))]) 1 dX12_laySoFar_45 (by decide) rfl (Nat.le_of_ble_eq_true rfl) rfl ?_
        refine T_goto (pc := 48) 2 dX12_laySoFar_48 (by decide) ?_
        exact hkb s6 (v1 + (1 : Int32))
set_option maxRecDepth 100000 in
set_option maxHeartbeats 4000000 in
theorem fX12_laySoFar_P2_T (σ : St) {k1 : St → Option St} (hk1 : ∀ (σ' : St), T kX12_laySoFar cSv σ' 51 [(0, .ref 10)] [] (k1 σ')) (v1 : Int32) : T kX12_laySoFar cSv σ 2 [(0, .ref 10), (1, .int v1)] [] (fX12_laySoFar_P2 k1 σ v1) :=
  it_T (S := (fun t : St × Int32 => t.1)) (lv := fun t : St × Int32 => [(0, .ref 10), (1, .int t.2)]) (st := fun _ => []) (fun kb hkb t => fX12_laySoFar_L2_T (hk1 := hk1) (hkb := fun σ v1 => hkb (σ, v1)) t.1 t.2) FU (σ, v1)
set_option maxRecDepth 100000 in
set_option maxHeartbeats 4000000 in
theorem fX12_laySoFar_L95_T (v1 : Int32) (v2 : Int32) (v3 : Int32) (σ : St) {k1 : St → Option St} {kb : St → Int32 → Option St} (hk1 : ∀ (σ' : St), T kX12_laySoFar cSv σ' 226 [(0, .ref 10), (1, .int v1), (2, .int v2)] [] (k1 σ')) (hkb : ∀ (σ' : St) (w4 : Int32), T kX12_laySoFar cSv σ' 95 [(0, .ref 10), (1, .int v1), (2, .int v2), (3, .int v3), (4, .int w4)] [] (kb σ' w4)) (v4 : Int32) : T kX12_laySoFar cSv σ 95 [(0, .ref 10), (1, .int v1), (2, .int v2), (3, .int v3), (4, .int v4)] [] (fX12_laySoFar_L95 v1 v2 v3 k1 kb σ v4) := by
  unfold fX12_laySoFar_L95
  refine T_iload (pc := 95) 4 dX12_laySoFar_95 rfl ?_
  refine T_aload_n (pc := 97) 0 dX12_laySoFar_97 rfl rfl ?_
  refine T_getI (pc := 98) fd_10_8 hw1511 dX12_laySoFar_98 ?_
  refine T_icmp_ge (pc := 101) 226 dX12_laySoFar_101 (by decide) (fun _ => ?_) (fun _ => ?_)
  · refine T_pick (lv' := [(0, .ref 10), (1, .int v1), (2, .int v2)]) [0, 1, 2] rfl ?_
    exact hk1 σ
  · refine T_aload_n (pc := 104) 0 dX12_laySoFar_104 rfl rfl ?_
    refine T_iload_n (pc := 105) 1 dX12_laySoFar_105 rfl rfl ?_
    refine T_iload (pc := 106) 4 dX12_laySoFar_106 rfl ?_
    refine T_callPz (pc := 108) (rest := []) (Rn_V (pc := 108) (as := [.int v1, .int v4]) (rest := []) (ctX12_mayGo σ v1 v4) rfl rfl mv_X12_mayGo hw1955 rfl ⟨Nat.le_of_ble_eq_true rfl, Nat.le_of_ble_eq_true rfl⟩ (Nat.le_of_ble_eq_true rfl) dX12_laySoFar_108 rfl) rfl (fun x10 => ?_)
    refine T_if_ne (pc := 111) 117 dX12_laySoFar_111 (by decide) (fun _ => ?_) (fun _ => ?_)
    · refine T_bipush (pc := 117) (v := 9) dX12_laySoFar_117 (by decide) ?_
      refine T_iload_n (pc := 119) 1 dX12_laySoFar_119 rfl rfl ?_
      refine T_aload_n (pc := 120) 0 dX12_laySoFar_120 rfl rfl ?_
      refine T_getA (pc := 121) fd_10_37 hw1540 dX12_laySoFar_121 ?_
      refine T_iload (pc := 124) 4 dX12_laySoFar_124 rfl ?_
      refine T_iald (pc := 126) rfl dX12_laySoFar_126 (fun x11 => ?_)
      refine T_iadd (pc := 127) dX12_laySoFar_127 ?_
      refine T_imul (pc := 128) dX12_laySoFar_128 ?_
      refine T_iload (pc := 129) 4 dX12_laySoFar_129 rfl ?_
      refine T_iadd (pc := 131) dX12_laySoFar_131 ?_
      refine T_iconst (pc := 132) (v := 1) dX12_laySoFar_132 (by decide) ?_
      refine T_iadd (pc := 133) dX12_laySoFar_133 ?_
      refine T_letI (fun x12 => ?_)
      refine T_istore (pc := 134) (lv' := [(0, .ref 10), (1, .int v1), (2, .int v2), (3, .int v3), (4, .int v4), (5, .int x12)]) dX12_laySoFar_134 (Nat.le_of_ble_eq_true rfl) rfl ?_
      refine T_aload_n (pc := 136) 0 dX12_laySoFar_136 rfl rfl ?_
      refine T_getA (pc := 137) fd_10_39 hw1542 dX12_laySoFar_137 ?_
      refine T_iload_n (pc := 140) 3 dX12_laySoFar_140 rfl rfl ?_
      refine T_iald (pc := 141) rfl dX12_laySoFar_141 (fun x13 => ?_)
      refine T_aload_n (pc := 142) 0 dX12_laySoFar_142 rfl rfl ?_
      refine T_iload_n (pc := 143) 1 dX12_laySoFar_143 rfl rfl ?_
      refine T_iload_n (pc := 144) 2 dX12_laySoFar_144 rfl rfl ?_
      refine T_iload (pc := 145) 4 dX12_laySoFar_145 rfl ?_
      refine T_callPi (pc := 147) (rest := [.int x13]) (Rn_V (pc := 147) (as := [.int v1, .int v2, .int v4]) (rest := [.int x13]) (ctX12_gapOf σ v1 v2 v4) rfl rfl mv_X12_gapOf hw1959 rfl ⟨Nat.le_of_ble_eq_true rfl, Nat.le_of_ble_eq_true rfl⟩ (Nat.le_of_ble_eq_true rfl) dX12_laySoFar_147 rfl) rfl (fun x14 => ?_)
      refine T_iadd (pc := 150) dX12_laySoFar_150 ?_
      refine T_letI (fun x15 => ?_)
      refine T_istore (pc := 151) (lv' := [(0, .ref 10), (1, .int v1), (2, .int v2), (3, .int v3), (4, .int v4), (5, .int x12), (6, .int x15)]) dX12_laySoFar_151 (Nat.le_of_ble_eq_true rfl) rfl ?_
      refine T_iload (pc := 153) 6 dX12_laySoFar_153 rfl ?_
      refine T_aload_n (pc := 155) 0 dX12_laySoFar_155 rfl rfl ?_
      refine T_getA (pc := 156) fd_10_39 hw1542 dX12_laySoFar_156 ?_
      refine T_iload (pc := 159) 5 dX12_laySoFar_159 rfl ?_
      refine T_iald (pc := 161) rfl dX12_laySoFar_161 (fun x16 => ?_)
      refine T_icmp_ge (pc := 162) 173 dX12_laySoFar_162 (by decide) (fun _ => ?_) (fun _ => ?_)
      · refine T_iload (pc := 173) 6 dX12_laySoFar_173 rfl ?_
        refine T_aload_n (pc := 175) 0 dX12_laySoFar_175 rfl rfl ?_
        refine T_getA (pc := 176) fd_10_39 hw1542 dX12_laySoFar_176 ?_
        refine T_iload (pc := 179) 5 dX12_laySoFar_179 rfl ?_
        refine T_iald (pc := 181) rfl dX12_laySoFar_181 (fun x17 => ?_)
        refine T_icmp_gt (pc := 182) 201 dX12_laySoFar_182 (by decide) (fun _ => ?_) (fun _ => ?_)
        · refine T_aload_n (pc := 201) 0 dX12_laySoFar_201 rfl rfl ?_
          refine T_getA (pc := 202) fd_10_39 hw1542 dX12_laySoFar_202 ?_
          refine T_iload (pc := 205) 5 dX12_laySoFar_205 rfl ?_
          refine T_aload_n (pc := 207) 0 dX12_laySoFar_207 rfl rfl ?_
          refine T_getA (pc := 208) fd_10_39 hw1542 dX12_laySoFar_208 ?_
          refine T_iload (pc := 211) 5 dX12_laySoFar_211 rfl ?_
          refine T_iald (pc := 213) rfl dX12_laySoFar_213 (fun x18 => ?_)
          refine T_iload (pc := 214) 6 dX12_laySoFar_214 rfl ?_
          refine T_callPi (pc := 216) (rest := [.int x12, .ref 75]) (Rn_S (pc := 216) (as := [.int x18, .int x15]) (rest := [.int x12, .ref 75]) (ctJ9_min_7cf53 σ x18 x15) ms_J9_min_7cf53 hw1898 rfl ⟨Nat.le_of_ble_eq_true rfl, Nat.le_of_ble_eq_true rfl⟩ (Nat.le_of_ble_eq_true rfl) dX12_laySoFar_216 rfl) rfl (fun x19 => ?_)
          refine T_iast (pc := 219) rfl dX12_laySoFar_219 ?_
          refine T_letS (fun s20 => ?_)
          refine T_iinc (pc := 220) (y := 1) (lv' := [(0, .ref 10), (1, .int v1), (2, .int v2), (3, .int v3), (4, .int (v4 + (1 : Int32))), (5, .int x12), (6, .int x15)]) 4 dX12_laySoFar_220 (by decide) rfl (Nat.le_of_ble_eq_true rfl) rfl ?_
          refine T_goto (pc := 223) 95 dX12_laySoFar_223 (by decide) ?_
          refine T_pick (lv' := [(0, .ref 10), (1, .int v1), (2, .int v2), (3, .int v3), (4, .int (v4 + (1 : Int32)))]) [0, 1, 2, 3, 4] rfl ?_
          exact hkb s20 (v4 + (1 : Int32))
        · refine T_aload_n (pc := 185) 0 dX12_laySoFar_185 rfl rfl ?_
          refine T_getA (pc := 186) fd_10_41 hw1544 dX12_laySoFar_186 ?_
          refine T_iload (pc := 189) 5 dX12_laySoFar_189 rfl ?_
          refine T_dup2_ia (pc := 191) dX12_laySoFar_191 ?_
          refine T_lald (pc := 192) rfl dX12_laySoFar_192 (fun x21 => ?_)
          refine T_aload_n (pc := 193) 0 dX12_laySoFar_193 rfl rfl ?_
          refine T_getA (pc := 194) fd_10_41 hw1544 dX12_laySoFar_194 ?_
          refine T_iload_n (pc := 197) 3 dX12_laySoFar_197 rfl rfl ?_
          refine T_lald (pc := 198) rfl dX12_laySoFar_198 (fun x22 => ?_)
          refine T_ladd (pc := 199) dX12_laySoFar_199 ?_
          refine T_last (pc := 200) rfl dX12_laySoFar_200 ?_
          refine T_letS (fun s23 => ?_)
          refine T_aload_n (pc := 201) 0 dX12_laySoFar_201 rfl rfl ?_
          refine T_getA (pc := 202) fd_10_39 hw1542 dX12_laySoFar_202 ?_
          refine T_iload (pc := 205) 5 dX12_laySoFar_205 rfl ?_
          refine T_aload_n (pc := 207) 0 dX12_laySoFar_207 rfl rfl ?_
          refine T_getA (pc := 208) fd_10_39 hw1542 dX12_laySoFar_208 ?_
          refine T_iload (pc := 211) 5 dX12_laySoFar_211 rfl ?_
          refine T_iald (pc := 213) rfl dX12_laySoFar_213 (fun x24 => ?_)
          refine T_iload (pc := 214) 6 dX12_laySoFar_214 rfl ?_
          refine T_callPi (pc := 216) (rest := [.int x12, .ref 75]) (Rn_S (pc := 216) (as := [.int x24, .int x15]) (rest := [.int x12, .ref 75]) (ctJ9_min_7cf53 s23 x24 x15) ms_J9_min_7cf53 hw1898 rfl ⟨Nat.le_of_ble_eq_true rfl, Nat.le_of_ble_eq_true rfl⟩ (Nat.le_of_ble_eq_true rfl) dX12_laySoFar_216 rfl) rfl (fun x25 => ?_)
          refine T_iast (pc := 219) rfl dX12_laySoFar_219 ?_
          refine T_letS (fun s26 => ?_)
          refine T_iinc (pc := 220) (y := 1) (lv' := [(0, .ref 10), (1, .int v1), (2, .int v2), (3, .int v3), (4, .int (v4 + (1 : Int32))), (5, .int x12), (6, .int x15)]) 4 dX12_laySoFar_220 (by decide) rfl (Nat.le_of_ble_eq_true rfl) rfl ?_
          refine T_goto (pc := 223) 95 dX12_laySoFar_223 (by decide) ?_
          refine T_pick (lv' := [(0, .ref 10), (1, .int v1), (2, .int v2), (3, .int v3), (4, .int (v4 + (1 : Int32)))]) [0, 1, 2, 3, 4] rfl ?_
          exact hkb s26 (v4 + (1 : Int32))
      · refine T_aload_n (pc := 165) 0 dX12_laySoFar_165 rfl rfl ?_
        refine T_getA (pc := 166) fd_10_41 hw1544 dX12_laySoFar_166 ?_
        refine T_iload (pc := 169) 5 dX12_laySoFar_169 rfl ?_
        refine T_lconst (pc := 171) (v := 0) dX12_laySoFar_171 (by decide) ?_
        refine T_last (pc := 172) rfl dX12_laySoFar_172 ?_
        refine T_letS (fun s27 => ?_)
        refine T_iload (pc := 173) 6 dX12_laySoFar_173 rfl ?_
        refine T_aload_n (pc := 175) 0 dX12_laySoFar_175 rfl rfl ?_
        refine T_getA (pc := 176) fd_10_39 hw1542 dX12_laySoFar_176 ?_
        refine T_iload (pc := 179) 5 dX12_laySoFar_179 rfl ?_
        refine T_iald (pc := 181) rfl dX12_laySoFar_181 (fun x28 => ?_)
        refine T_icmp_gt (pc := 182) 201 dX12_laySoFar_182 (by decide) (fun _ => ?_) (fun _ => ?_)
        · refine T_aload_n (pc := 201) 0 dX12_laySoFar_201 rfl rfl ?_
          refine T_getA (pc := 202) fd_10_39 hw1542 dX12_laySoFar_202 ?_
          refine T_iload (pc := 205) 5 dX12_laySoFar_205 rfl ?_
          refine T_aload_n (pc := 207) 0 dX12_laySoFar_207 rfl rfl ?_
          refine T_getA (pc := 208) fd_10_39 hw1542 dX12_laySoFar_208 ?_
          refine T_iload (pc := 211) 5 dX12_laySoFar_211 rfl ?_
          refine T_iald (pc := 213) rfl dX12_laySoFar_213 (fun x29 => ?_)
          refine T_iload (pc := 214) 6 dX12_laySoFar_214 rfl ?_
          refine T_callPi (pc := 216) (rest := [.int x12, .ref 75]) (Rn_S (pc := 216) (as := [.int x29, .int x15]) (rest := [.int x12, .ref 75]) (ctJ9_min_7cf53 s27 x29 x15) ms_J9_min_7cf53 hw1898 rfl ⟨Nat.le_of_ble_eq_true rfl, Nat.le_of_ble_eq_true rfl⟩ (Nat.le_of_ble_eq_true rfl) dX12_laySoFar_216 rfl) rfl (fun x30 => ?_)
          refine T_iast (pc := 219) rfl dX12_laySoFar_219 ?_
          refine T_letS (fun s31 => ?_)
          refine T_iinc (pc := 220) (y := 1) (lv' := [(0, .ref 10), (1, .int v1), (2, .int v2), (3, .int v3), (4, .int (v4 + (1 : Int32))), (5, .int x12), (6, .int x15)]) 4 dX12_laySoFar_220 (by decide) rfl (Nat.le_of_ble_eq_true rfl) rfl ?_
          refine T_goto (pc := 223) 95 dX12_laySoFar_223 (by decide) ?_
          refine T_pick (lv' := [(0, .ref 10), (1, .int v1), (2, .int v2), (3, .int v3), (4, .int (v4 + (1 : Int32)))]) [0, 1, 2, 3, 4] rfl ?_
          exact hkb s31 (v4 + (1 : Int32))
        · refine T_aload_n (pc := 185) 0 dX12_laySoFar_185 rfl rfl ?_
          refine T_getA (pc := 186) fd_10_41 hw1544 dX12_laySoFar_186 ?_
          refine T_iload (pc := 189) 5 dX12_laySoFar_189 rfl ?_
          refine T_dup2_ia (pc := 191) dX12_laySoFar_191 ?_
          refine T_lald (pc := 192) rfl dX12_laySoFar_192 (fun x32 => ?_)
          refine T_aload_n (pc := 193) 0 dX12_laySoFar_193 rfl rfl ?_
          refine T_getA (pc := 194) fd_10_41 hw1544 dX12_laySoFar_194 ?_
          refine T_iload_n (pc := 197) 3 dX12_laySoFar_197 rfl rfl ?_
          refine T_lald (pc := 198) rfl dX12_laySoFar_198 (fun x33 => ?_)
          refine T_ladd (pc := 199) dX12_laySoFar_199 ?_
          refine T_last (pc := 200) rfl dX12_laySoFar_200 ?_
          refine T_letS (fun s34 => ?_)
          refine T_aload_n (pc := 201) 0 dX12_laySoFar_201 rfl rfl ?_
          refine T_getA (pc := 202) fd_10_39 hw1542 dX12_laySoFar_202 ?_
          refine T_iload (pc := 205) 5 dX12_laySoFar_205 rfl ?_
          refine T_aload_n (pc := 207) 0 dX12_laySoFar_207 rfl rfl ?_
          refine T_getA (pc := 208) fd_10_39 hw1542 dX12_laySoFar_208 ?_
          refine T_iload (pc := 211) 5 dX12_laySoFar_211 rfl ?_
          refine T_iald (pc := 213) rfl dX12_laySoFar_213 (fun x35 => ?_)
          refine T_iload (pc := 214) 6 dX12_laySoFar_214 rfl ?_
          refine T_callPi (pc := 216) (rest := [.int x12, .ref 75]) (Rn_S (pc := 216) (as := [.int x35, .int x15]) (rest := [.int x12, .ref 75]) (ctJ9_min_7cf53 s34 x35 x15) ms_J9_min_7cf53 hw1898 rfl ⟨Nat.le_of_ble_eq_true rfl, Nat.le_of_ble_eq_true rfl⟩ (Nat.le_of_ble_eq_true rfl) dX12_laySoFar_216 rfl) rfl (fun x36 => ?_)
          refine T_iast (pc := 219) rfl dX12_laySoFar_219 ?_
          refine T_letS (fun s37 => ?_)
          refine T_iinc (pc := 220) (y := 1) (lv' := [(0, .ref 10), (1, .int v1), (2, .int v2), (3, .int v3), (4, .int (v4 + (1 : Int32))), (5, .int x12), (6, .int x15)]) 4 dX12_laySoFar_220 (by decide) rfl (Nat.le_of_ble_eq_true rfl) rfl ?_
          refine T_goto (pc := 223) 95 dX12_laySoFar_223 (by decide) ?_
          refine T_pick (lv' := [(0, .ref 10), (1, .int v1), (2, .int v2), (3, .int v3), (4, .int (v4 + (1 : Int32)))]) [0, 1, 2, 3, 4] rfl ?_
          exact hkb s37 (v4 + (1 : Int32))
    · refine T_goto (pc := 114) 220 dX12_laySoFar_114 (by decide) ?_
      refine T_iinc (pc := 220) (y := 1) (lv' := [(0, .ref 10), (1, .int v1), (2, .int v2), (3, .int v3), (4, .int (v4 + (1 : Int32)))]) 4 dX12_laySoFar_220 (by decide) rfl (Nat.le_of_ble_eq_true rfl) rfl ?_
      refine T_goto (pc := 223) 95 dX12_laySoFar_223 (by decide) ?_
      exact hkb σ (v4 + (1 : Int32))
set_option maxRecDepth 100000 in
set_option maxHeartbeats 4000000 in
theorem fX12_laySoFar_P95_T (v1 : Int32) (v2 : Int32) (v3 : Int32) (σ : St) {k1 : St → Option St} (hk1 : ∀ (σ' : St), T kX12_laySoFar cSv σ' 226 [(0, .ref 10), (1, .int v1), (2, .int v2)] [] (k1 σ')) (v4 : Int32) : T kX12_laySoFar cSv σ 95 [(0, .ref 10), (1, .int v1), (2, .int v2), (3, .int v3), (4, .int v4)] [] (fX12_laySoFar_P95 v1 v2 v3 k1 σ v4) :=
  it_T (S := (fun t : St × Int32 => t.1)) (lv := fun t : St × Int32 => [(0, .ref 10), (1, .int v1), (2, .int v2), (3, .int v3), (4, .int t.2)]) (st := fun _ => []) (fun kb hkb t => fX12_laySoFar_L95_T v1 v2 v3 (hk1 := hk1) (hkb := fun σ v4 => hkb (σ, v4)) t.1 t.2) FU (σ, v4)
set_option maxRecDepth 100000 in
set_option maxHeartbeats 4000000 in
theorem fX12_laySoFar_L63_T (v1 : Int32) (σ : St) {k1 : St → Option St} {kb : St → Int32 → Option St} (hk1 : ∀ (σ' : St), T kX12_laySoFar cSv σ' 232 [(0, .ref 10), (1, .int v1)] [] (k1 σ')) (hkb : ∀ (σ' : St) (w2 : Int32), T kX12_laySoFar cSv σ' 63 [(0, .ref 10), (1, .int v1), (2, .int w2)] [] (kb σ' w2)) (v2 : Int32) : T kX12_laySoFar cSv σ 63 [(0, .ref 10), (1, .int v1), (2, .int v2)] [] (fX12_laySoFar_L63 v1 k1 kb σ v2) := by
  unfold fX12_laySoFar_L63
  refine T_iload_n (pc := 63) 2 dX12_laySoFar_63 rfl rfl ?_
  refine T_aload_n (pc := 64) 0 dX12_laySoFar_64 rfl rfl ?_
  refine T_getI (pc := 65) fd_10_8 hw1511 dX12_laySoFar_65 ?_
  refine T_icmp_gt (pc := 68) 232 dX12_laySoFar_68 (by decide) (fun _ => ?_) (fun _ => ?_)
  · refine T_pick (lv' := [(0, .ref 10), (1, .int v1)]) [0, 1] rfl ?_
    exact hk1 σ
  · refine T_bipush (pc := 71) (v := 9) dX12_laySoFar_71 (by decide) ?_
    refine T_iload_n (pc := 73) 1 dX12_laySoFar_73 rfl rfl ?_
    refine T_imul (pc := 74) dX12_laySoFar_74 ?_
    refine T_iload_n (pc := 75) 2 dX12_laySoFar_75 rfl rfl ?_
    refine T_iadd (pc := 76) dX12_laySoFar_76 ?_
    refine T_letI (fun x8 => ?_)
    refine T_istore_n (pc := 77) (lv' := [(0, .ref 10), (1, .int v1), (2, .int v2), (3, .int x8)]) dX12_laySoFar_77 rfl (Nat.le_of_ble_eq_true rfl) rfl ?_
    refine T_aload_n (pc := 78) 0 dX12_laySoFar_78 rfl rfl ?_
    refine T_getA (pc := 79) fd_10_41 hw1544 dX12_laySoFar_79 ?_
    refine T_iload_n (pc := 82) 3 dX12_laySoFar_82 rfl rfl ?_
    refine T_lald (pc := 83) rfl dX12_laySoFar_83 (fun x9 => ?_)
    refine T_lconst (pc := 84) (v := 0) dX12_laySoFar_84 (by decide) ?_
    refine T_lcmp (pc := 85) dX12_laySoFar_85 ?_
    refine T_if_ne (pc := 86) 92 dX12_laySoFar_86 (by decide) (fun _ => ?_) (fun _ => ?_)
    · refine T_iconst (pc := 92) (v := 0) dX12_laySoFar_92 (by decide) ?_
      refine T_istore (pc := 93) (lv' := [(0, .ref 10), (1, .int v1), (2, .int v2), (3, .int x8), (4, .int (0 : Int32))]) dX12_laySoFar_93 (Nat.le_of_ble_eq_true rfl) rfl ?_
      refine fX12_laySoFar_P95_T v1 v2 x8 (hk1 := fun s38 => ?_) σ (0 : Int32)
      · refine T_iinc (pc := 226) (y := 1) (lv' := [(0, .ref 10), (1, .int v1), (2, .int (v2 + (1 : Int32)))]) 2 dX12_laySoFar_226 (by decide) rfl (Nat.le_of_ble_eq_true rfl) rfl ?_
        refine T_goto (pc := 229) 63 dX12_laySoFar_229 (by decide) ?_
        exact hkb s38 (v2 + (1 : Int32))
    · refine T_goto (pc := 89) 226 dX12_laySoFar_89 (by decide) ?_
      refine T_iinc (pc := 226) (y := 1) (lv' := [(0, .ref 10), (1, .int v1), (2, .int (v2 + (1 : Int32))), (3, .int x8)]) 2 dX12_laySoFar_226 (by decide) rfl (Nat.le_of_ble_eq_true rfl) rfl ?_
      refine T_goto (pc := 229) 63 dX12_laySoFar_229 (by decide) ?_
      refine T_pick (lv' := [(0, .ref 10), (1, .int v1), (2, .int (v2 + (1 : Int32)))]) [0, 1, 2] rfl ?_
      exact hkb σ (v2 + (1 : Int32))
set_option maxRecDepth 100000 in
set_option maxHeartbeats 4000000 in
theorem fX12_laySoFar_P63_T (v1 : Int32) (σ : St) {k1 : St → Option St} (hk1 : ∀ (σ' : St), T kX12_laySoFar cSv σ' 232 [(0, .ref 10), (1, .int v1)] [] (k1 σ')) (v2 : Int32) : T kX12_laySoFar cSv σ 63 [(0, .ref 10), (1, .int v1), (2, .int v2)] [] (fX12_laySoFar_P63 v1 k1 σ v2) :=
  it_T (S := (fun t : St × Int32 => t.1)) (lv := fun t : St × Int32 => [(0, .ref 10), (1, .int v1), (2, .int t.2)]) (st := fun _ => []) (fun kb hkb t => fX12_laySoFar_L63_T v1 (hk1 := hk1) (hkb := fun σ v2 => hkb (σ, v2)) t.1 t.2) FU (σ, v2)
set_option maxRecDepth 100000 in
set_option maxHeartbeats 4000000 in
theorem fX12_laySoFar_L53_T (σ : St) {kb : St → Int32 → Option St} (hkb : ∀ (σ' : St) (w1 : Int32), T kX12_laySoFar cSv σ' 53 [(0, .ref 10), (1, .int w1)] [] (kb σ' w1)) (v1 : Int32) : T kX12_laySoFar cSv σ 53 [(0, .ref 10), (1, .int v1)] [] (fX12_laySoFar_L53 kb σ v1) := by
  unfold fX12_laySoFar_L53
  refine T_iload_n (pc := 53) 1 dX12_laySoFar_53 rfl rfl ?_
  refine T_aload_n (pc := 54) 0 dX12_laySoFar_54 rfl rfl ?_
  refine T_getI (pc := 55) fd_10_42 hw1545 dX12_laySoFar_55 ?_
  refine T_icmp_ge (pc := 58) 238 dX12_laySoFar_58 (by decide) (fun _ => ?_) (fun _ => ?_)
  · exact T_return (pc := 238) rfl dX12_laySoFar_238 rfl
  · refine T_iconst (pc := 61) (v := 0) dX12_laySoFar_61 (by decide) ?_
    refine T_istore_n (pc := 62) (lv' := [(0, .ref 10), (1, .int v1), (2, .int (0 : Int32))]) dX12_laySoFar_62 rfl (Nat.le_of_ble_eq_true rfl) rfl ?_
    refine fX12_laySoFar_P63_T v1 (hk1 := fun s39 => ?_) σ (0 : Int32)
    · refine T_iinc (pc := 232) (y := 1) (lv' := [(0, .ref 10), (1, .int (v1 + (1 : Int32)))]) 1 dX12_laySoFar_232 (by decide) rfl (Nat.le_of_ble_eq_true rfl) rfl ?_
      refine T_goto (pc := 235) 53 dX12_laySoFar_235 (by decide) ?_
      exact hkb s39 (v1 + (1 : Int32))
set_option maxRecDepth 100000 in
set_option maxHeartbeats 4000000 in
theorem fX12_laySoFar_P53_T (σ : St) (v1 : Int32) : T kX12_laySoFar cSv σ 53 [(0, .ref 10), (1, .int v1)] [] (fX12_laySoFar_P53 σ v1) :=
  it_T (S := (fun t : St × Int32 => t.1)) (lv := fun t : St × Int32 => [(0, .ref 10), (1, .int t.2)]) (st := fun _ => []) (fun kb hkb t => fX12_laySoFar_L53_T (hkb := fun σ v1 => hkb (σ, v1)) t.1 t.2) FU (σ, v1)
set_option maxRecDepth 100000 in
set_option maxHeartbeats 4000000 in
theorem ctX12_laySoFar (σ : St) : Ct yX12_laySoFar kX12_laySoFar [.ref 10] σ cSv (fX12_laySoFar σ) := by
  refine Ct.of (by decide +kernel) rfl rfl (Nat.le_of_ble_eq_true rfl) ?_
  unfold fX12_laySoFar
  show T _ _ _ 0 [(0, .ref 10)] [] _
  refine T_iconst (pc := 0) (v := 0) dX12_laySoFar_0 (by decide) ?_
  refine T_istore_n (pc := 1) (lv' := [(0, .ref 10), (1, .int (0 : Int32))]) dX12_laySoFar_1 rfl (Nat.le_of_ble_eq_true rfl) rfl ?_
  refine fX12_laySoFar_P2_T (hk1 := fun s7 => ?_) σ (0 : Int32)
  · refine T_iconst (pc := 51) (v := 0) dX12_laySoFar_51 (by decide) ?_
    refine T_istore_n (pc := 52) (lv' := [(0, .ref 10), (1, .int (0 : Int32))]) dX12_laySoFar_52 rfl (Nat.le_of_ble_eq_true rfl) rfl ?_
    exact fX12_laySoFar_P53_T s7 (0 : Int32)
set_option maxRecDepth 100000 in
set_option maxHeartbeats 4000000 in
theorem ctX12_least (σ : St) (p0 : Int32) : Ct yX12_least kX12_least [.ref 10, .int p0] σ cSi (fX12_least σ p0) := by
  refine Ct.of (by decide +kernel) rfl rfl (Nat.le_of_ble_eq_true rfl) ?_
  unfold fX12_least
  show T _ _ _ 0 [(0, .ref 10), (1, .int p0)] [] _
  refine T_aload_n (pc := 0) 0 dX12_least_0 rfl rfl ?_
  refine T_iconst (pc := 1) (v := 0) dX12_least_1 (by decide) ?_
  refine T_putI (pc := 2) fd_10_0 hw1503 dX12_least_2 ?_
  refine T_letS (fun s1 => ?_)
  refine T_aload_n (pc := 5) 0 dX12_least_5 rfl rfl ?_
  refine T_iload_n (pc := 6) 1 dX12_least_6 rfl rfl ?_
  refine T_callSz (pc := 7) (rest := []) (Rn_V (pc := 7) (as := [.int p0]) (rest := []) (ctX12_isSmall s1 p0) rfl rfl mv_X12_isSmall hw1939 rfl ⟨Nat.le_of_ble_eq_true rfl, Nat.le_of_ble_eq_true rfl⟩ (Nat.le_of_ble_eq_true rfl) dX12_least_7 rfl) rfl (fun r2 => ?_)
  refine T_if_ne (pc := 10) 15 dX12_least_10 (by decide) (fun _ => ?_) (fun _ => ?_)
  · refine T_aload_n (pc := 15) 0 dX12_least_15 rfl rfl ?_
    refine T_callSv (pc := 16) (rest := []) (Rn_V (pc := 16) (as := []) (rest := []) (ctX12_layLeft r2.2) rfl rfl mv_X12_layLeft hw1947 rfl ⟨Nat.le_of_ble_eq_true rfl, Nat.le_of_ble_eq_true rfl⟩ (Nat.le_of_ble_eq_true rfl) dX12_least_16 rfl) rfl (fun s3 => ?_)
    refine T_aload_n (pc := 19) 0 dX12_least_19 rfl rfl ?_
    refine T_getA (pc := 20) fd_10_38 hw1541 dX12_least_20 ?_
    refine T_iconst (pc := 23) (v := 0) dX12_least_23 (by decide) ?_
    refine T_iald (pc := 24) rfl dX12_least_24 (fun x4 => ?_)
    exact T_ireturn (pc := 25) rfl dX12_least_25 rfl
  · refine T_iconst (pc := 13) (v := -1) dX12_least_13 (by decide) ?_
    exact T_ireturn (pc := 14) rfl dX12_least_14 rfl
set_option maxRecDepth 100000 in
set_option maxHeartbeats 4000000 in
theorem fX12_length_L66_T (v1 : Int32) (v2 : Int32) (v3 : Int32) (σ : St) {k1 : St → Int32 → Option (Int32 × St)} {kb : St → Int32 → Int32 → Option (Int32 × St)} (hk1 : ∀ (σ' : St) (w4 : Int32), T kX12_length cSi σ' 121 [(0, .ref 10), (1, .int v1), (2, .int v2), (3, .int v3), (4, .int w4)] [] (k1 σ' w4)) (hkb : ∀ (σ' : St) (w4 : Int32) (w5 : Int32), T kX12_length cSi σ' 66 [(0, .ref 10), (1, .int v1), (2, .int v2), (3, .int v3), (4, .int w4), (5, .int w5)] [] (kb σ' w4 w5)) (v4 : Int32) (v5 : Int32) : T kX12_length cSi σ 66 [(0, .ref 10), (1, .int v1), (2, .int v2), (3, .int v3), (4, .int v4), (5, .int v5)] [] (fX12_length_L66 v1 v2 v3 k1 kb σ v4 v5) := by
  unfold fX12_length_L66
  refine T_iload (pc := 66) 5 dX12_length_66 rfl ?_
  refine T_iload_n (pc := 68) 3 dX12_length_68 rfl rfl ?_
  refine T_icmp_ge (pc := 69) 121 dX12_length_69 (by decide) (fun _ => ?_) (fun _ => ?_)
  · refine T_pick (lv' := [(0, .ref 10), (1, .int v1), (2, .int v2), (3, .int v3), (4, .int v4)]) [0, 1, 2, 3, 4] rfl ?_
    exact hk1 σ v4
  · refine T_iload (pc := 72) 4 dX12_length_72 rfl ?_
    refine T_if_ne (pc := 74) 108 dX12_length_74 (by decide) (fun _ => ?_) (fun _ => ?_)
    · refine T_iconst (pc := 108) (v := 1) dX12_length_108 (by decide) ?_
      refine T_goto (pc := 109) 113 dX12_length_109 (by decide) ?_
      refine T_istore (pc := 113) (lv' := [(0, .ref 10), (1, .int v1), (2, .int v2), (3, .int v3), (4, .int (1 : Int32)), (5, .int v5)]) dX12_length_113 (Nat.le_of_ble_eq_true rfl) rfl ?_
      refine T_iinc (pc := 115) (y := 1) (lv' := [(0, .ref 10), (1, .int v1), (2, .int v2), (3, .int v3), (4, .int (1 : Int32)), (5, .int (v5 + (1 : Int32)))]) 5 dX12_length_115 (by decide) rfl (Nat.le_of_ble_eq_true rfl) rfl ?_
      refine T_goto (pc := 118) 66 dX12_length_118 (by decide) ?_
      exact hkb σ (1 : Int32) (v5 + (1 : Int32))
    · refine T_aload_n (pc := 77) 0 dX12_length_77 rfl rfl ?_
      refine T_iload (pc := 78) 5 dX12_length_78 rfl ?_
      refine T_iload_n (pc := 80) 1 dX12_length_80 rfl rfl ?_
      refine T_callPz (pc := 81) (rest := []) (Rn_V (pc := 81) (as := [.int v5, .int v1]) (rest := []) (ctX12_isOf σ v5 v1) rfl rfl mv_X12_isOf hw1907 rfl ⟨Nat.le_of_ble_eq_true rfl, Nat.le_of_ble_eq_true rfl⟩ (Nat.le_of_ble_eq_true rfl) dX12_length_81 rfl) rfl (fun x7 => ?_)
      refine T_if_eq (pc := 84) 112 dX12_length_84 (by decide) (fun _ => ?_) (fun _ => ?_)
      · refine T_iconst (pc := 112) (v := 0) dX12_length_112 (by decide) ?_
        refine T_istore (pc := 113) (lv' := [(0, .ref 10), (1, .int v1), (2, .int v2), (3, .int v3), (4, .int (0 : Int32)), (5, .int v5)]) dX12_length_113 (Nat.le_of_ble_eq_true rfl) rfl ?_
        refine T_iinc (pc := 115) (y := 1) (lv' := [(0, .ref 10), (1, .int v1), (2, .int v2), (3, .int v3), (4, .int (0 : Int32)), (5, .int (v5 + (1 : Int32)))]) 5 dX12_length_115 (by decide) rfl (Nat.le_of_ble_eq_true rfl) rfl ?_
        refine T_goto (pc := 118) 66 dX12_length_118 (by decide) ?_
        exact hkb σ (0 : Int32) (v5 + (1 : Int32))
      · refine T_aload_n (pc := 87) 0 dX12_length_87 rfl rfl ?_
        refine T_iload_n (pc := 88) 3 dX12_length_88 rfl rfl ?_
        refine T_iload (pc := 89) 5 dX12_length_89 rfl ?_
        refine T_callPz (pc := 91) (rest := []) (Rn_V (pc := 91) (as := [.int v3, .int v5]) (rest := []) (ctX12_isSameCue σ v3 v5) rfl rfl mv_X12_isSameCue hw1984 rfl ⟨Nat.le_of_ble_eq_true rfl, Nat.le_of_ble_eq_true rfl⟩ (Nat.le_of_ble_eq_true rfl) dX12_length_91 rfl) rfl (fun x8 => ?_)
        refine T_if_eq (pc := 94) 112 dX12_length_94 (by decide) (fun _ => ?_) (fun _ => ?_)
        · refine T_iconst (pc := 112) (v := 0) dX12_length_112 (by decide) ?_
          refine T_istore (pc := 113) (lv' := [(0, .ref 10), (1, .int v1), (2, .int v2), (3, .int v3), (4, .int (0 : Int32)), (5, .int v5)]) dX12_length_113 (Nat.le_of_ble_eq_true rfl) rfl ?_
          refine T_iinc (pc := 115) (y := 1) (lv' := [(0, .ref 10), (1, .int v1), (2, .int v2), (3, .int v3), (4, .int (0 : Int32)), (5, .int (v5 + (1 : Int32)))]) 5 dX12_length_115 (by decide) rfl (Nat.le_of_ble_eq_true rfl) rfl ?_
          refine T_goto (pc := 118) 66 dX12_length_118 (by decide) ?_
          exact hkb σ (0 : Int32) (v5 + (1 : Int32))
        · refine T_aload_n (pc := 97) 0 dX12_length_97 rfl rfl ?_
          refine T_iload (pc := 98) 5 dX12_length_98 rfl ?_
          refine T_iload_n (pc := 100) 1 dX12_length_100 rfl rfl ?_
          refine T_callSi (pc := 101) (rest := []) (Rn_V (pc := 101) (as := [.int v5, .int v1]) (rest := []) (ctX12_kindOf σ v5 v1) rfl rfl mv_X12_kindOf hw1915 rfl ⟨Nat.le_of_ble_eq_true rfl, Nat.le_of_ble_eq_true rfl⟩ (Nat.le_of_ble_eq_true rfl) dX12_length_101 rfl) rfl (fun r9 => ?_)
          refine T_iconst (pc := 104) (v := 5) dX12_length_104 (by decide) ?_
          refine T_icmp_ne (pc := 105) 112 dX12_length_105 (by decide) (fun _ => ?_) (fun _ => ?_)
          · refine T_iconst (pc := 112) (v := 0) dX12_length_112 (by decide) ?_
            refine T_istore (pc := 113) (lv' := [(0, .ref 10), (1, .int v1), (2, .int v2), (3, .int v3), (4, .int (0 : Int32)), (5, .int v5)]) dX12_length_113 (Nat.le_of_ble_eq_true rfl) rfl ?_
            refine T_iinc (pc := 115) (y := 1) (lv' := [(0, .ref 10), (1, .int v1), (2, .int v2), (3, .int v3), (4, .int (0 : Int32)), (5, .int (v5 + (1 : Int32)))]) 5 dX12_length_115 (by decide) rfl (Nat.le_of_ble_eq_true rfl) rfl ?_
            refine T_goto (pc := 118) 66 dX12_length_118 (by decide) ?_
            exact hkb r9.2 (0 : Int32) (v5 + (1 : Int32))
          · refine T_iconst (pc := 108) (v := 1) dX12_length_108 (by decide) ?_
            refine T_goto (pc := 109) 113 dX12_length_109 (by decide) ?_
            refine T_istore (pc := 113) (lv' := [(0, .ref 10), (1, .int v1), (2, .int v2), (3, .int v3), (4, .int (1 : Int32)), (5, .int v5)]) dX12_length_113 (Nat.le_of_ble_eq_true rfl) rfl ?_
            refine T_iinc (pc := 115) (y := 1) (lv' := [(0, .ref 10), (1, .int v1), (2, .int v2), (3, .int v3), (4, .int (1 : Int32)), (5, .int (v5 + (1 : Int32)))]) 5 dX12_length_115 (by decide) rfl (Nat.le_of_ble_eq_true rfl) rfl ?_
            refine T_goto (pc := 118) 66 dX12_length_118 (by decide) ?_
            exact hkb r9.2 (1 : Int32) (v5 + (1 : Int32))
set_option maxRecDepth 100000 in
set_option maxHeartbeats 4000000 in
theorem fX12_length_P66_T (v1 : Int32) (v2 : Int32) (v3 : Int32) (σ : St) {k1 : St → Int32 → Option (Int32 × St)} (hk1 : ∀ (σ' : St) (w4 : Int32), T kX12_length cSi σ' 121 [(0, .ref 10), (1, .int v1), (2, .int v2), (3, .int v3), (4, .int w4)] [] (k1 σ' w4)) (v4 : Int32) (v5 : Int32) : T kX12_length cSi σ 66 [(0, .ref 10), (1, .int v1), (2, .int v2), (3, .int v3), (4, .int v4), (5, .int v5)] [] (fX12_length_P66 v1 v2 v3 k1 σ v4 v5) :=
  it_T (S := (fun t : St × Int32 × Int32 => t.1)) (lv := fun t : St × Int32 × Int32 => [(0, .ref 10), (1, .int v1), (2, .int v2), (3, .int v3), (4, .int t.2.1), (5, .int t.2.2)]) (st := fun _ => []) (fun kb hkb t => fX12_length_L66_T v1 v2 v3 (hk1 := hk1) (hkb := fun σ v4 v5 => hkb (σ, v4, v5)) t.1 t.2.1 t.2.2) FU (σ, v4, v5)
set_option maxRecDepth 100000 in
set_option maxHeartbeats 4000000 in
theorem fX12_length_L19_T (v1 : Int32) (σ : St) {kb : St → Int32 → Int32 → Option (Int32 × St)} (hkb : ∀ (σ' : St) (w2 : Int32) (w3 : Int32), T kX12_length cSi σ' 19 [(0, .ref 10), (1, .int v1), (2, .int w2), (3, .int w3)] [] (kb σ' w2 w3)) (v2 : Int32) (v3 : Int32) : T kX12_length cSi σ 19 [(0, .ref 10), (1, .int v1), (2, .int v2), (3, .int v3)] [] (fX12_length_L19 v1 kb σ v2 v3) := by
  unfold fX12_length_L19
  refine T_iload_n (pc := 19) 3 dX12_length_19 rfl rfl ?_
  refine T_sipush (pc := 20) (v := 128) dX12_length_20 (by decide) ?_
  refine T_icmp_ge (pc := 23) 145 dX12_length_23 (by decide) (fun _ => ?_) (fun _ => ?_)
  · refine T_iload_n (pc := 145) 2 dX12_length_145 rfl rfl ?_
    exact T_ireturn (pc := 146) rfl dX12_length_146 rfl
  · refine T_aload_n (pc := 26) 0 dX12_length_26 rfl rfl ?_
    refine T_iload_n (pc := 27) 3 dX12_length_27 rfl rfl ?_
    refine T_iload_n (pc := 28) 1 dX12_length_28 rfl rfl ?_
    refine T_callPz (pc := 29) (rest := []) (Rn_V (pc := 29) (as := [.int v3, .int v1]) (rest := []) (ctX12_isOf σ v3 v1) rfl rfl mv_X12_isOf hw1907 rfl ⟨Nat.le_of_ble_eq_true rfl, Nat.le_of_ble_eq_true rfl⟩ (Nat.le_of_ble_eq_true rfl) dX12_length_29 rfl) rfl (fun x3 => ?_)
    refine T_if_ne (pc := 32) 38 dX12_length_32 (by decide) (fun _ => ?_) (fun _ => ?_)
    · refine T_iload_n (pc := 38) 2 dX12_length_38 rfl rfl ?_
      refine T_aload_n (pc := 39) 0 dX12_length_39 rfl rfl ?_
      refine T_getA (pc := 40) fd_10_23 hw1526 dX12_length_40 ?_
      refine T_iload_n (pc := 43) 3 dX12_length_43 rfl rfl ?_
      refine T_iald (pc := 44) rfl dX12_length_44 (fun x4 => ?_)
      refine T_iadd (pc := 45) dX12_length_45 ?_
      refine T_letI (fun x5 => ?_)
      refine T_istore_n (pc := 46) (lv' := [(0, .ref 10), (1, .int v1), (2, .int x5), (3, .int v3)]) dX12_length_46 rfl (Nat.le_of_ble_eq_true rfl) rfl ?_
      refine T_aload_n (pc := 47) 0 dX12_length_47 rfl rfl ?_
      refine T_iload_n (pc := 48) 3 dX12_length_48 rfl rfl ?_
      refine T_iload_n (pc := 49) 1 dX12_length_49 rfl rfl ?_
      refine T_callSi (pc := 50) (rest := []) (Rn_V (pc := 50) (as := [.int v3, .int v1]) (rest := []) (ctX12_kindOf σ v3 v1) rfl rfl mv_X12_kindOf hw1915 rfl ⟨Nat.le_of_ble_eq_true rfl, Nat.le_of_ble_eq_true rfl⟩ (Nat.le_of_ble_eq_true rfl) dX12_length_50 rfl) rfl (fun r6 => ?_)
      refine T_iconst (pc := 53) (v := 5) dX12_length_53 (by decide) ?_
      refine T_icmp_eq (pc := 54) 60 dX12_length_54 (by decide) (fun _ => ?_) (fun _ => ?_)
      · refine T_iconst (pc := 60) (v := 0) dX12_length_60 (by decide) ?_
        refine T_istore (pc := 61) (lv' := [(0, .ref 10), (1, .int v1), (2, .int x5), (3, .int v3), (4, .int (0 : Int32))]) dX12_length_61 (Nat.le_of_ble_eq_true rfl) rfl ?_
        refine T_iconst (pc := 63) (v := 0) dX12_length_63 (by decide) ?_
        refine T_istore (pc := 64) (lv' := [(0, .ref 10), (1, .int v1), (2, .int x5), (3, .int v3), (4, .int (0 : Int32)), (5, .int (0 : Int32))]) dX12_length_64 (Nat.le_of_ble_eq_true rfl) rfl ?_
        refine fX12_length_P66_T v1 x5 v3 (hk1 := fun s10 x11 => ?_) r6.2 (0 : Int32) (0 : Int32)
        · refine T_iload_n (pc := 121) 2 dX12_length_121 rfl rfl ?_
          refine T_iload (pc := 122) 4 dX12_length_122 rfl ?_
          refine T_if_eq (pc := 124) 131 dX12_length_124 (by decide) (fun _ => ?_) (fun _ => ?_)
          · refine T_aload_n (pc := 131) 0 dX12_length_131 rfl rfl ?_
            refine T_getA (pc := 132) fd_10_22 hw1525 dX12_length_132 ?_
            refine T_iload_n (pc := 135) 3 dX12_length_135 rfl rfl ?_
            refine T_iald (pc := 136) rfl dX12_length_136 (fun x12 => ?_)
            refine T_iadd (pc := 137) dX12_length_137 ?_
            refine T_letI (fun x13 => ?_)
            refine T_istore_n (pc := 138) (lv' := [(0, .ref 10), (1, .int v1), (2, .int x13), (3, .int v3), (4, .int x11)]) dX12_length_138 rfl (Nat.le_of_ble_eq_true rfl) rfl ?_
            refine T_iinc (pc := 139) (y := 1) (lv' := [(0, .ref 10), (1, .int v1), (2, .int x13), (3, .int (v3 + (1 : Int32))), (4, .int x11)]) 3 dX12_length_139 (by decide) rfl (Nat.le_of_ble_eq_true rfl) rfl ?_
            refine T_goto (pc := 142) 19 dX12_length_142 (by decide) ?_
            refine T_pick (lv' := [(0, .ref 10), (1, .int v1), (2, .int x13), (3, .int (v3 + (1 : Int32)))]) [0, 1, 2, 3] rfl ?_
            exact hkb s10 x13 (v3 + (1 : Int32))
          · refine T_iconst (pc := 127) (v := 0) dX12_length_127 (by decide) ?_
            refine T_goto (pc := 128) 137 dX12_length_128 (by decide) ?_
            refine T_iadd (pc := 137) dX12_length_137 ?_
            refine T_letI (fun x14 => ?_)
            refine T_istore_n (pc := 138) (lv' := [(0, .ref 10), (1, .int v1), (2, .int x14), (3, .int v3), (4, .int x11)]) dX12_length_138 rfl (Nat.le_of_ble_eq_true rfl) rfl ?_
            refine T_iinc (pc := 139) (y := 1) (lv' := [(0, .ref 10), (1, .int v1), (2, .int x14), (3, .int (v3 + (1 : Int32))), (4, .int x11)]) 3 dX12_length_139 (by decide) rfl (Nat.le_of_ble_eq_true rfl) rfl ?_
            refine T_goto (pc := 142) 19 dX12_length_142 (by decide) ?_
            refine T_pick (lv' := [(0, .ref 10), (1, .int v1), (2, .int x14), (3, .int (v3 + (1 : Int32)))]) [0, 1, 2, 3] rfl ?_
            exact hkb s10 x14 (v3 + (1 : Int32))
      · refine T_goto (pc := 57) 139 dX12_length_57 (by decide) ?_
        refine T_iinc (pc := 139) (y := 1) (lv' := [(0, .ref 10), (1, .int v1), (2, .int x5), (3, .int (v3 + (1 : Int32)))]) 3 dX12_length_139 (by decide) rfl (Nat.le_of_ble_eq_true rfl) rfl ?_
        refine T_goto (pc := 142) 19 dX12_length_142 (by decide) ?_
        exact hkb r6.2 x5 (v3 + (1 : Int32))
    · refine T_goto (pc := 35) 139 dX12_length_35 (by decide) ?_
      refine T_iinc (pc := 139) (y := 1) (lv' := [(0, .ref 10), (1, .int v1), (2, .int v2), (3, .int (v3 + (1 : Int32)))]) 3 dX12_length_139 (by decide) rfl (Nat.le_of_ble_eq_true rfl) rfl ?_
      refine T_goto (pc := 142) 19 dX12_length_142 (by decide) ?_
      exact hkb σ v2 (v3 + (1 : Int32))
set_option maxRecDepth 100000 in
set_option maxHeartbeats 4000000 in
theorem fX12_length_P19_T (v1 : Int32) (σ : St) (v2 : Int32) (v3 : Int32) : T kX12_length cSi σ 19 [(0, .ref 10), (1, .int v1), (2, .int v2), (3, .int v3)] [] (fX12_length_P19 v1 σ v2 v3) :=
  it_T (S := (fun t : St × Int32 × Int32 => t.1)) (lv := fun t : St × Int32 × Int32 => [(0, .ref 10), (1, .int v1), (2, .int t.2.1), (3, .int t.2.2)]) (st := fun _ => []) (fun kb hkb t => fX12_length_L19_T v1 (hkb := fun σ v2 v3 => hkb (σ, v2, v3)) t.1 t.2.1 t.2.2) FU (σ, v2, v3)
set_option maxRecDepth 100000 in
set_option maxHeartbeats 4000000 in
theorem ctX12_length (σ : St) (p0 : Int32) : Ct yX12_length kX12_length [.ref 10, .int p0] σ cSi (fX12_length σ p0) := by
  refine Ct.of (by decide +kernel) rfl rfl (Nat.le_of_ble_eq_true rfl) ?_
  unfold fX12_length
  show T _ _ _ 0 [(0, .ref 10), (1, .int p0)] [] _
  refine T_aload_n (pc := 0) 0 dX12_length_0 rfl rfl ?_
  refine T_iconst (pc := 1) (v := 0) dX12_length_1 (by decide) ?_
  refine T_putI (pc := 2) fd_10_0 hw1503 dX12_length_2 ?_
  refine T_letS (fun s1 => ?_)
  refine T_aload_n (pc := 5) 0 dX12_length_5 rfl rfl ?_
  refine T_iload_n (pc := 6) 1 dX12_length_6 rfl rfl ?_
  refine T_callPz (pc := 7) (rest := []) (Rn_V (pc := 7) (as := [.int p0]) (rest := []) (ctX12_areRolls s1 p0) rfl rfl mv_X12_areRolls hw1911 rfl ⟨Nat.le_of_ble_eq_true rfl, Nat.le_of_ble_eq_true rfl⟩ (Nat.le_of_ble_eq_true rfl) dX12_length_7 rfl) rfl (fun x2 => ?_)
  refine T_if_ne (pc := 10) 15 dX12_length_10 (by decide) (fun _ => ?_) (fun _ => ?_)
  · refine T_iconst (pc := 15) (v := 0) dX12_length_15 (by decide) ?_
    refine T_istore_n (pc := 16) (lv' := [(0, .ref 10), (1, .int p0), (2, .int (0 : Int32))]) dX12_length_16 rfl (Nat.le_of_ble_eq_true rfl) rfl ?_
    refine T_iconst (pc := 17) (v := 0) dX12_length_17 (by decide) ?_
    refine T_istore_n (pc := 18) (lv' := [(0, .ref 10), (1, .int p0), (2, .int (0 : Int32)), (3, .int (0 : Int32))]) dX12_length_18 rfl (Nat.le_of_ble_eq_true rfl) rfl ?_
    exact fX12_length_P19_T p0 s1 (0 : Int32) (0 : Int32)
  · refine T_iconst (pc := 13) (v := -1) dX12_length_13 (by decide) ?_
    exact T_ireturn (pc := 14) rfl dX12_length_14 rfl
set_option maxRecDepth 100000 in
set_option maxHeartbeats 4000000 in
theorem ctJ0_coder_7d493_202 (σ : St) : Ct yJ0_coder_7d493 kJ0_coder_7d493_202 [.ref 202] σ (cPi σ) (fJ0_coder_7d493_202) := by
  refine Ct.ofJ (by decide +kernel) rfl rfl (Nat.le_of_ble_eq_true rfl) ?_
  unfold fJ0_coder_7d493_202
  show T _ _ _ 0 [(0, .ref 202)] [] _
  refine T_getsCS (pc := 0) hw1754 dJ0_coder_7d493_0 ?_
  refine T_if_eq (pc := 3) 13 dJ0_coder_7d493_3 (by decide) (fun _ => ?_) (fun _ => ?_)
  · refine T_iconst (pc := 13) (v := 1) dJ0_coder_7d493_13 (by decide) ?_
    exact T_nret (pc := 14) .byte rfl dJ0_coder_7d493_14 rfl rfl
  · refine T_aload_n (pc := 6) 0 dJ0_coder_7d493_6 rfl rfl ?_
    refine T_getSc (pc := 7) 2 (by decide) hw2151 dJ0_coder_7d493_7 ?_
    refine T_goto (pc := 10) 14 dJ0_coder_7d493_10 (by decide) ?_
    exact T_nret (pc := 14) .byte rfl dJ0_coder_7d493_14 rfl rfl
set_option maxRecDepth 100000 in
set_option maxHeartbeats 4000000 in
theorem ctJ0_length_8abf5_202 (σ : St) : Ct yJ0_length_8abf5 kJ0_length_8abf5_202 [.ref 202] σ (cPi σ) (fJ0_length_8abf5_202) := by
  refine Ct.ofJ (by decide +kernel) rfl rfl (Nat.le_of_ble_eq_true rfl) ?_
  unfold fJ0_length_8abf5_202
  show T _ _ _ 0 [(0, .ref 202)] [] _
  refine T_aload_n (pc := 0) 0 dJ0_length_8abf5_0 rfl rfl ?_
  refine T_getSv (pc := 1) 2 (by decide) hw2150 dJ0_length_8abf5_1 ?_
  refine T_slenS (pc := 4) (v := 5) 2 (by decide) (by decide) dJ0_length_8abf5_4 ?_
  refine T_aload_n (pc := 5) 0 dJ0_length_8abf5_5 rfl rfl ?_
  refine T_callPi (pc := 6) (rest := [.int (5 : Int32)]) (Rn_VS (pc := 6) (as := []) (rest := [.int (5 : Int32)]) 2 (by decide) (ctJ0_coder_7d493_202 σ) rfl mv_J0_coder_7d493 hw1750 rfl ⟨Nat.le_of_ble_eq_true rfl, Nat.le_of_ble_eq_true rfl⟩ (Nat.le_of_ble_eq_true rfl) dJ0_length_8abf5_6 rfl) rfl (fun x1 => ?_)
  refine T_ishr (pc := 9) dJ0_length_8abf5_9 ?_
  exact T_ireturn (pc := 10) rfl dJ0_length_8abf5_10 rfl
set_option maxRecDepth 100000 in
set_option maxHeartbeats 4000000 in
theorem ctJ0_isLatin1_aae02_202 (σ : St) : Ct yJ0_isLatin1_aae02 kJ0_isLatin1_aae02_202 [.ref 202] σ (cPz σ) (fJ0_isLatin1_aae02_202) := by
  refine Ct.ofJ (by decide +kernel) rfl rfl (Nat.le_of_ble_eq_true rfl) ?_
  unfold fJ0_isLatin1_aae02_202
  show T _ _ _ 0 [(0, .ref 202)] [] _
  refine T_getsCS (pc := 0) hw1754 dJ0_isLatin1_aae02_0 ?_
  refine T_if_eq (pc := 3) 17 dJ0_isLatin1_aae02_3 (by decide) (fun _ => ?_) (fun _ => ?_)
  · refine T_iconst (pc := 17) (v := 0) dJ0_isLatin1_aae02_17 (by decide) ?_
    exact T_zreturn (pc := 18) false rfl dJ0_isLatin1_aae02_18 rfl rfl
  · refine T_aload_n (pc := 6) 0 dJ0_isLatin1_aae02_6 rfl rfl ?_
    refine T_getSc (pc := 7) 2 (by decide) hw2151 dJ0_isLatin1_aae02_7 ?_
    refine T_if_ne (pc := 10) 17 dJ0_isLatin1_aae02_10 (by decide) (fun _ => ?_) (fun _ => ?_)
    · refine T_iconst (pc := 17) (v := 0) dJ0_isLatin1_aae02_17 (by decide) ?_
      exact T_zreturn (pc := 18) false rfl dJ0_isLatin1_aae02_18 rfl rfl
    · refine T_iconst (pc := 13) (v := 1) dJ0_isLatin1_aae02_13 (by decide) ?_
      refine T_goto (pc := 14) 18 dJ0_isLatin1_aae02_14 (by decide) ?_
      exact T_zreturn (pc := 18) true rfl dJ0_isLatin1_aae02_18 rfl rfl
set_option maxRecDepth 100000 in
set_option maxHeartbeats 4000000 in
theorem ctJ1_charAt_3b067_212 (σ : St) (p1 : Int32) : Ct yJ1_charAt_3b067 kJ1_charAt_3b067_212 [.ref 212, .int p1] σ (cPi σ) (fJ1_charAt_3b067_212 p1) := by
  refine Ct.ofJ (by decide +kernel) rfl rfl (Nat.le_of_ble_eq_true rfl) ?_
  unfold fJ1_charAt_3b067_212
  show T _ _ _ 0 [(0, .ref 212), (1, .int p1)] [] _
  refine T_iload_n (pc := 0) 1 dJ1_charAt_3b067_0 rfl rfl ?_
  refine T_aload_n (pc := 1) 0 dJ1_charAt_3b067_1 rfl rfl ?_
  refine T_slenS (pc := 2) (v := 5) 2 (by decide) (by decide) dJ1_charAt_3b067_2 ?_
  refine T_callPv (pc := 3) (rest := []) (Rn_S (pc := 3) (as := [.int p1, .int (5 : Int32)]) (rest := []) (ctJ0_checkIndex_df160 σ p1 (5 : Int32)) ms_J0_checkIndex_df160 hw1767 rfl ⟨Nat.le_of_ble_eq_true rfl, Nat.le_of_ble_eq_true rfl⟩ (Nat.le_of_ble_eq_true rfl) dJ1_charAt_3b067_3 rfl) rfl (fun u1 => ?_)
  refine T_aload_n (pc := 6) 0 dJ1_charAt_3b067_6 rfl rfl ?_
  refine T_iload_n (pc := 7) 1 dJ1_charAt_3b067_7 rfl rfl ?_
  refine T_baldS (pc := 8) 2 (by decide) dJ1_charAt_3b067_8 (fun x2 => ?_)
  refine T_sipush (pc := 9) (v := 255) dJ1_charAt_3b067_9 (by decide) ?_
  refine T_iand (pc := 12) dJ1_charAt_3b067_12 ?_
  refine T_i2c (pc := 13) dJ1_charAt_3b067_13 ?_
  exact T_nret (pc := 14) .char rfl dJ1_charAt_3b067_14 (pk_nc _) rfl
set_option maxRecDepth 100000 in
set_option maxHeartbeats 4000000 in
theorem ctJ0_charAt_5068e_202 (σ : St) (p0 : Int32) : Ct yJ0_charAt_5068e kJ0_charAt_5068e_202 [.ref 202, .int p0] σ (cPi σ) (fJ0_charAt_5068e_202 p0) := by
  refine Ct.ofJ (by decide +kernel) rfl rfl (Nat.le_of_ble_eq_true rfl) ?_
  unfold fJ0_charAt_5068e_202
  show T _ _ _ 0 [(0, .ref 202), (1, .int p0)] [] _
  refine T_aload_n (pc := 0) 0 dJ0_charAt_5068e_0 rfl rfl ?_
  refine T_callPz (pc := 1) (rest := []) (Rn_VS (pc := 1) (as := []) (rest := []) 2 (by decide) (ctJ0_isLatin1_aae02_202 σ) rfl mv_J0_isLatin1_aae02 hw1760 rfl ⟨Nat.le_of_ble_eq_true rfl, Nat.le_of_ble_eq_true rfl⟩ (Nat.le_of_ble_eq_true rfl) dJ0_charAt_5068e_1 rfl) rfl (fun x1 => ?_)
  refine T_if_eq (pc := 4) 16 dJ0_charAt_5068e_4 (by decide) (fun _ => ?_) (fun _ => ?_)
  · refine T_aload_n (pc := 16) 0 dJ0_charAt_5068e_16 rfl rfl ?_
    refine T_getSv (pc := 17) 2 (by decide) hw2150 dJ0_charAt_5068e_17 ?_
    refine T_iload_n (pc := 20) 1 dJ0_charAt_5068e_20 rfl rfl ?_
    exact T_none
  · refine T_aload_n (pc := 7) 0 dJ0_charAt_5068e_7 rfl rfl ?_
    refine T_getSv (pc := 8) 2 (by decide) hw2150 dJ0_charAt_5068e_8 ?_
    refine T_iload_n (pc := 11) 1 dJ0_charAt_5068e_11 rfl rfl ?_
    refine T_callPi (pc := 12) (rest := []) (Rn_S (pc := 12) (as := [.ref 212, .int p0]) (rest := []) (ctJ1_charAt_3b067_212 σ p0) ms_J1_charAt_3b067 hw1764 rfl ⟨Nat.le_of_ble_eq_true rfl, Nat.le_of_ble_eq_true rfl⟩ (Nat.le_of_ble_eq_true rfl) dJ0_charAt_5068e_12 rfl) rfl (fun x2 => ?_)
    exact T_creturn (pc := 15) rfl dJ0_charAt_5068e_15
set_option maxRecDepth 100000 in
set_option maxHeartbeats 4000000 in
theorem fX12_isAmong_202_L2_T (v1 : Int32) (σ : St) {kb : Int32 → Option Bool} (hkb : ∀ (w2 : Int32), T kX12_isAmong_202 (cPz σ) σ 2 [(0, .ref 202), (1, .int v1), (2, .int w2)] [] (kb w2)) (v2 : Int32) : T kX12_isAmong_202 (cPz σ) σ 2 [(0, .ref 202), (1, .int v1), (2, .int v2)] [] (fX12_isAmong_202_L2 v1 kb v2) := by
  unfold fX12_isAmong_202_L2
  refine T_iload_n (pc := 2) 2 dX12_isAmong_2 rfl rfl ?_
  refine T_aload_n (pc := 3) 0 dX12_isAmong_3 rfl rfl ?_
  refine T_callPi (pc := 4) (rest := [.int v2]) (Rn_VS (pc := 4) (as := []) (rest := [.int v2]) 2 (by decide) (ctJ0_length_8abf5_202 σ) rfl mv_J0_length_8abf5 hw1746 rfl ⟨Nat.le_of_ble_eq_true rfl, Nat.le_of_ble_eq_true rfl⟩ (Nat.le_of_ble_eq_true rfl) dX12_isAmong_4 rfl) rfl (fun x1 => ?_)
  refine T_icmp_ge (pc := 7) 27 dX12_isAmong_7 (by decide) (fun _ => ?_) (fun _ => ?_)
  · refine T_iconst (pc := 27) (v := 0) dX12_isAmong_27 (by decide) ?_
    exact T_zreturn (pc := 28) false rfl dX12_isAmong_28 rfl rfl
  · refine T_aload_n (pc := 10) 0 dX12_isAmong_10 rfl rfl ?_
    refine T_iload_n (pc := 11) 2 dX12_isAmong_11 rfl rfl ?_
    refine T_callPi (pc := 12) (rest := []) (Rn_VS (pc := 12) (as := [.int v2]) (rest := []) 2 (by decide) (ctJ0_charAt_5068e_202 σ v2) rfl mv_J0_charAt_5068e hw1756 rfl ⟨Nat.le_of_ble_eq_true rfl, Nat.le_of_ble_eq_true rfl⟩ (Nat.le_of_ble_eq_true rfl) dX12_isAmong_12 rfl) rfl (fun x2 => ?_)
    refine T_iload_n (pc := 15) 1 dX12_isAmong_15 rfl rfl ?_
    refine T_icmp_ne (pc := 16) 21 dX12_isAmong_16 (by decide) (fun _ => ?_) (fun _ => ?_)
    · refine T_iinc (pc := 21) (y := 1) (lv' := [(0, .ref 202), (1, .int v1), (2, .int (v2 + (1 : Int32)))]) 2 dX12_isAmong_21 (by decide) rfl (Nat.le_of_ble_eq_true rfl) rfl ?_
      refine T_goto (pc := 24) 2 dX12_isAmong_24 (by decide) ?_
      exact hkb (v2 + (1 : Int32))
    · refine T_iconst (pc := 19) (v := 1) dX12_isAmong_19 (by decide) ?_
      exact T_zreturn (pc := 20) true rfl dX12_isAmong_20 rfl rfl
set_option maxRecDepth 100000 in
set_option maxHeartbeats 4000000 in
theorem fX12_isAmong_202_P2_T (v1 : Int32) (σ : St) (v2 : Int32) : T kX12_isAmong_202 (cPz σ) σ 2 [(0, .ref 202), (1, .int v1), (2, .int v2)] [] (fX12_isAmong_202_P2 v1 v2) :=
  it_T (S := (fun _ : Int32 => σ)) (lv := fun t : Int32 => [(0, .ref 202), (1, .int v1), (2, .int t)]) (st := fun _ => []) (fun kb hkb t => fX12_isAmong_202_L2_T v1 (hkb := fun v2 => hkb v2) σ t) FU v2
set_option maxRecDepth 100000 in
set_option maxHeartbeats 4000000 in
theorem ctX12_isAmong_202 (σ : St) (p1 : Int32) : Ct yX12_isAmong kX12_isAmong_202 [.ref 202, .int p1] σ (cPz σ) (fX12_isAmong_202 p1) := by
  refine Ct.of (by decide +kernel) rfl rfl (Nat.le_of_ble_eq_true rfl) ?_
  unfold fX12_isAmong_202
  show T _ _ _ 0 [(0, .ref 202), (1, .int p1)] [] _
  refine T_iconst (pc := 0) (v := 0) dX12_isAmong_0 (by decide) ?_
  refine T_istore_n (pc := 1) (lv' := [(0, .ref 202), (1, .int p1), (2, .int (0 : Int32))]) dX12_isAmong_1 rfl (Nat.le_of_ble_eq_true rfl) rfl ?_
  exact fX12_isAmong_202_P2_T p1 σ (0 : Int32)
set_option maxRecDepth 100000 in
set_option maxHeartbeats 4000000 in
theorem ctX12_begin_57 (σ : St) (p1 : Int32) (p2 : Int32) : Ct yX12_begin kX12_begin_57 [.ref 10, .ref 57, .int p1, .int p2] σ cSv (fX12_begin_57 σ p1 p2) := by
  refine Ct.of (by decide +kernel) rfl rfl (Nat.le_of_ble_eq_true rfl) ?_
  unfold fX12_begin_57
  show T _ _ _ 0 [(0, .ref 10), (1, .ref 57), (2, .int p1), (3, .int p2)] [] _
  refine T_aload_n (pc := 0) 0 dX12_begin_0 rfl rfl ?_
  refine T_aload_n (pc := 1) 1 dX12_begin_1 rfl rfl ?_
  refine T_putR (pc := 2) fd_10_6 hw1509 dX12_begin_2 rfl ?_
  refine T_letS (fun s1 => ?_)
  refine T_aload_n (pc := 5) 0 dX12_begin_5 rfl rfl ?_
  refine T_iload_n (pc := 6) 2 dX12_begin_6 rfl rfl ?_
  refine T_putI (pc := 7) fd_10_11 hw1514 dX12_begin_7 ?_
  refine T_letS (fun s2 => ?_)
  refine T_aload_n (pc := 10) 0 dX12_begin_10 rfl rfl ?_
  refine T_iload_n (pc := 11) 3 dX12_begin_11 rfl rfl ?_
  refine T_putI (pc := 12) fd_10_12 hw1515 dX12_begin_12 ?_
  refine T_letS (fun s3 => ?_)
  refine T_aload_n (pc := 15) 0 dX12_begin_15 rfl rfl ?_
  refine T_iconst (pc := 16) (v := 0) dX12_begin_16 (by decide) ?_
  refine T_putI (pc := 17) fd_10_13 hw1516 dX12_begin_17 ?_
  refine T_letS (fun s4 => ?_)
  refine T_aload_n (pc := 20) 0 dX12_begin_20 rfl rfl ?_
  refine T_iconst (pc := 21) (v := -1) dX12_begin_21 (by decide) ?_
  refine T_putI (pc := 22) fd_10_14 hw1517 dX12_begin_22 ?_
  refine T_letS (fun s5 => ?_)
  exact T_return (pc := 25) rfl dX12_begin_25 rfl
set_option maxRecDepth 100000 in
set_option maxHeartbeats 4000000 in
theorem fX12_goThrough_57_L32_T (σ : St) {k1 : St → Option St} {kb : St → Option St} (hk1 : ∀ (σ' : St), T kX12_goThrough_57 cSv σ' 66 [(0, .ref 10)] [] (k1 σ')) (hkb : ∀ (σ' : St), T kX12_goThrough_57 cSv σ' 32 [(0, .ref 10)] [] (kb σ')) : T kX12_goThrough_57 cSv σ 32 [(0, .ref 10)] [] (fX12_goThrough_57_L32 k1 kb σ) := by
  unfold fX12_goThrough_57_L32
  refine T_aload_n (pc := 32) 0 dX12_goThrough_32 rfl rfl ?_
  refine T_getI (pc := 33) fd_10_14 hw1517 dX12_goThrough_33 ?_
  refine T_iconst (pc := 36) (v := -1) dX12_goThrough_36 (by decide) ?_
  refine T_icmp_ne (pc := 37) 66 dX12_goThrough_37 (by decide) (fun _ => ?_) (fun _ => ?_)
  · exact hk1 σ
  · refine T_aload_n (pc := 40) 0 dX12_goThrough_40 rfl rfl ?_
    refine T_callSi (pc := 41) (rest := []) (Rn_V (pc := 41) (as := []) (rest := []) (ctX12_look σ) rfl rfl mv_X12_look hw1704 rfl ⟨Nat.le_of_ble_eq_true rfl, Nat.le_of_ble_eq_true rfl⟩ (Nat.le_of_ble_eq_true rfl) dX12_goThrough_41 rfl) rfl (fun r7 => ?_)
    refine T_bipush (pc := 44) (v := 59) dX12_goThrough_44 (by decide) ?_
    refine T_icmp_ne (pc := 46) 66 dX12_goThrough_46 (by decide) (fun _ => ?_) (fun _ => ?_)
    · exact hk1 r7.2
    · refine T_aload_n (pc := 49) 0 dX12_goThrough_49 rfl rfl ?_
      refine T_dup_a (pc := 50) dX12_goThrough_50 ?_
      refine T_getI (pc := 51) fd_10_13 hw1516 dX12_goThrough_51 ?_
      refine T_iconst (pc := 54) (v := 1) dX12_goThrough_54 (by decide) ?_
      refine T_iadd (pc := 55) dX12_goThrough_55 ?_
      refine T_putI (pc := 56) fd_10_13 hw1516 dX12_goThrough_56 ?_
      refine T_letS (fun s8 => ?_)
      refine T_aload_n (pc := 59) 0 dX12_goThrough_59 rfl rfl ?_
      refine T_callSv (pc := 60) (rest := []) (Rn_V (pc := 60) (as := []) (rest := []) (ctX12_clause s8) rfl rfl mv_X12_clause hw1739 rfl ⟨Nat.le_of_ble_eq_true rfl, Nat.le_of_ble_eq_true rfl⟩ (Nat.le_of_ble_eq_true rfl) dX12_goThrough_60 rfl) rfl (fun s9 => ?_)
      refine T_goto (pc := 63) 32 dX12_goThrough_63 (by decide) ?_
      exact hkb s9
set_option maxRecDepth 100000 in
set_option maxHeartbeats 4000000 in
theorem fX12_goThrough_57_P32_T (σ : St) {k1 : St → Option St} (hk1 : ∀ (σ' : St), T kX12_goThrough_57 cSv σ' 66 [(0, .ref 10)] [] (k1 σ')) : T kX12_goThrough_57 cSv σ 32 [(0, .ref 10)] [] (fX12_goThrough_57_P32 k1 σ) :=
  it_T (S := (fun t : St => t)) (lv := fun t : St => [(0, .ref 10)]) (st := fun _ => []) (fun kb hkb t => fX12_goThrough_57_L32_T (hk1 := hk1) (hkb := fun σ => hkb σ) t) FU σ
set_option maxRecDepth 100000 in
set_option maxHeartbeats 4000000 in
theorem ctX12_goThrough_57 (σ : St) (p1 : Int32) (p2 : Int32) : Ct yX12_goThrough kX12_goThrough_57 [.ref 10, .ref 57, .int p1, .int p2] σ cSv (fX12_goThrough_57 σ p1 p2) := by
  refine Ct.of (by decide +kernel) rfl rfl (Nat.le_of_ble_eq_true rfl) ?_
  unfold fX12_goThrough_57
  show T _ _ _ 0 [(0, .ref 10), (1, .ref 57), (2, .int p1), (3, .int p2)] [] _
  refine T_aload_n (pc := 0) 0 dX12_goThrough_0 rfl rfl ?_
  refine T_aload_n (pc := 1) 1 dX12_goThrough_1 rfl rfl ?_
  refine T_iload_n (pc := 2) 2 dX12_goThrough_2 rfl rfl ?_
  refine T_iload_n (pc := 3) 3 dX12_goThrough_3 rfl rfl ?_
  refine T_callSv (pc := 4) (rest := []) (Rn_V (pc := 4) (as := [.ref 57, .int p1, .int p2]) (rest := []) (ctX12_begin_57 σ p1 p2) rfl rfl mv_X12_begin hw1696 rfl ⟨Nat.le_of_ble_eq_true rfl, Nat.le_of_ble_eq_true rfl⟩ (Nat.le_of_ble_eq_true rfl) dX12_goThrough_4 rfl) rfl (fun s1 => ?_)
  refine T_aload_n (pc := 7) 0 dX12_goThrough_7 rfl rfl ?_
  refine T_bipush (pc := 8) (v := 121) dX12_goThrough_8 (by decide) ?_
  refine T_putI (pc := 10) fd_10_16 hw1519 dX12_goThrough_10 ?_
  refine T_letS (fun s2 => ?_)
  refine T_aload_n (pc := 13) 0 dX12_goThrough_13 rfl rfl ?_
  refine T_iconst (pc := 14) (v := 0) dX12_goThrough_14 (by decide) ?_
  refine T_putI (pc := 15) fd_10_15 hw1518 dX12_goThrough_15 ?_
  refine T_letS (fun s3 => ?_)
  refine T_aload_n (pc := 18) 0 dX12_goThrough_18 rfl rfl ?_
  refine T_iconst (pc := 19) (v := 0) dX12_goThrough_19 (by decide) ?_
  refine T_putZ (pc := 20) fd_10_20 hw1523 dX12_goThrough_20 rfl rfl ?_
  refine T_letS (fun s4 => ?_)
  refine T_aload_n (pc := 23) 0 dX12_goThrough_23 rfl rfl ?_
  refine T_iconst (pc := 24) (v := 0) dX12_goThrough_24 (by decide) ?_
  refine T_putI (pc := 25) fd_10_17 hw1520 dX12_goThrough_25 ?_
  refine T_letS (fun s5 => ?_)
  refine T_aload_n (pc := 28) 0 dX12_goThrough_28 rfl rfl ?_
  refine T_callSv (pc := 29) (rest := []) (Rn_V (pc := 29) (as := []) (rest := []) (ctX12_clause s5) rfl rfl mv_X12_clause hw1739 rfl ⟨Nat.le_of_ble_eq_true rfl, Nat.le_of_ble_eq_true rfl⟩ (Nat.le_of_ble_eq_true rfl) dX12_goThrough_29 rfl) rfl (fun s6 => ?_)
  refine T_pick (lv' := [(0, .ref 10)]) [0] rfl ?_
  refine fX12_goThrough_57_P32_T (hk1 := fun s10 => ?_) s6
  · refine T_aload_n (pc := 66) 0 dX12_goThrough_66 rfl rfl ?_
    refine T_getI (pc := 67) fd_10_14 hw1517 dX12_goThrough_67 ?_
    refine T_iconst (pc := 70) (v := -1) dX12_goThrough_70 (by decide) ?_
    refine T_icmp_ne (pc := 71) 87 dX12_goThrough_71 (by decide) (fun _ => ?_) (fun _ => ?_)
    · exact T_return (pc := 87) rfl dX12_goThrough_87 rfl
    · refine T_aload_n (pc := 74) 0 dX12_goThrough_74 rfl rfl ?_
      refine T_callSi (pc := 75) (rest := []) (Rn_V (pc := 75) (as := []) (rest := []) (ctX12_look s10) rfl rfl mv_X12_look hw1704 rfl ⟨Nat.le_of_ble_eq_true rfl, Nat.le_of_ble_eq_true rfl⟩ (Nat.le_of_ble_eq_true rfl) dX12_goThrough_75 rfl) rfl (fun r11 => ?_)
      refine T_iconst (pc := 78) (v := -1) dX12_goThrough_78 (by decide) ?_
      refine T_icmp_eq (pc := 79) 87 dX12_goThrough_79 (by decide) (fun _ => ?_) (fun _ => ?_)
      · exact T_return (pc := 87) rfl dX12_goThrough_87 rfl
      · refine T_aload_n (pc := 82) 0 dX12_goThrough_82 rfl rfl ?_
        refine T_callSz (pc := 83) (rest := []) (Rn_V (pc := 83) (as := []) (rest := []) (ctX12_fails r11.2) rfl rfl mv_X12_fails hw1708 rfl ⟨Nat.le_of_ble_eq_true rfl, Nat.le_of_ble_eq_true rfl⟩ (Nat.le_of_ble_eq_true rfl) dX12_goThrough_83 rfl) rfl (fun r12 => ?_)
        refine T_pop_i (pc := 86) dX12_goThrough_86 ?_
        exact T_return (pc := 87) rfl dX12_goThrough_87 rfl
set_option maxRecDepth 100000 in
set_option maxHeartbeats 4000000 in
theorem fX12_worthOf_L6_T (v1 : Int32) (v2 : Int32) (v3 : Int32) (v4 : Int32) (v5 : Int32) (σ : St) {k1 : Int32 → Option (Int32 × St)} {kb : Int32 → Int32 → Option (Int32 × St)} (hk1 : ∀ (w6 : Int32), T kX12_worthOf cSi σ 53 [(0, .ref 10), (1, .int v1), (2, .int v2), (3, .int v3), (4, .int v4), (5, .int v5), (6, .int w6)] [] (k1 w6)) (hkb : ∀ (w6 : Int32) (w7 : Int32), T kX12_worthOf cSi σ 6 [(0, .ref 10), (1, .int v1), (2, .int v2), (3, .int v3), (4, .int v4), (5, .int v5), (6, .int w6), (7, .int w7)] [] (kb w6 w7)) (v6 : Int32) (v7 : Int32) : T kX12_worthOf cSi σ 6 [(0, .ref 10), (1, .int v1), (2, .int v2), (3, .int v3), (4, .int v4), (5, .int v5), (6, .int v6), (7, .int v7)] [] (fX12_worthOf_L6 v1 v2 v3 v4 v5 k1 kb σ v6 v7) := by
  unfold fX12_worthOf_L6
  refine T_iload (pc := 6) 7 dX12_worthOf_6 rfl ?_
  refine T_iload (pc := 8) 4 dX12_worthOf_8 rfl ?_
  refine T_icmp_ge (pc := 10) 53 dX12_worthOf_10 (by decide) (fun _ => ?_) (fun _ => ?_)
  · refine T_pick (lv' := [(0, .ref 10), (1, .int v1), (2, .int v2), (3, .int v3), (4, .int v4), (5, .int v5), (6, .int v6)]) [0, 1, 2, 3, 4, 5, 6] rfl ?_
    exact hk1 v6
  · refine T_iload (pc := 13) 6 dX12_worthOf_13 rfl ?_
    refine T_ldcwS (pc := 15) 202 (fun _ _ _ _ h => h.2.1.2.2) dX12_worthOf_15 ?_
    refine T_aload_n (pc := 18) 0 dX12_worthOf_18 rfl rfl ?_
    refine T_getA (pc := 19) fd_10_2 hw1505 dX12_worthOf_19 ?_
    refine T_sipush (pc := 22) (v := 200) dX12_worthOf_22 (by decide) ?_
    refine T_iload_n (pc := 25) 2 dX12_worthOf_25 rfl rfl ?_
    refine T_imul (pc := 26) dX12_worthOf_26 ?_
    refine T_iload_n (pc := 27) 3 dX12_worthOf_27 rfl rfl ?_
    refine T_iadd (pc := 28) dX12_worthOf_28 ?_
    refine T_iload (pc := 29) 7 dX12_worthOf_29 rfl ?_
    refine T_iadd (pc := 31) dX12_worthOf_31 ?_
    refine T_bald (pc := 32) rfl dX12_worthOf_32 (fun x1 => ?_)
    refine T_callPz (pc := 33) (rest := [.int v6]) (Rn_S (pc := 33) (as := [.ref 202, .int x1]) (rest := [.int v6]) (ctX12_isAmong_202 σ x1) ms_X12_isAmong hw1743 rfl ⟨Nat.le_of_ble_eq_true rfl, Nat.le_of_ble_eq_true rfl⟩ (Nat.le_of_ble_eq_true rfl) dX12_worthOf_33 rfl) rfl (fun x2 => ?_)
    refine T_if_eq (pc := 36) 43 dX12_worthOf_36 (by decide) (fun _ => ?_) (fun _ => ?_)
    · refine T_iconst (pc := 43) (v := 0) dX12_worthOf_43 (by decide) ?_
      refine T_iadd (pc := 44) dX12_worthOf_44 ?_
      refine T_letI (fun x3 => ?_)
      refine T_istore (pc := 45) (lv' := [(0, .ref 10), (1, .int v1), (2, .int v2), (3, .int v3), (4, .int v4), (5, .int v5), (6, .int x3), (7, .int v7)]) dX12_worthOf_45 (Nat.le_of_ble_eq_true rfl) rfl ?_
      refine T_iinc (pc := 47) (y := 1) (lv' := [(0, .ref 10), (1, .int v1), (2, .int v2), (3, .int v3), (4, .int v4), (5, .int v5), (6, .int x3), (7, .int (v7 + (1 : Int32)))]) 7 dX12_worthOf_47 (by decide) rfl (Nat.le_of_ble_eq_true rfl) rfl ?_
      refine T_goto (pc := 50) 6 dX12_worthOf_50 (by decide) ?_
      exact hkb x3 (v7 + (1 : Int32))
    · refine T_iconst (pc := 39) (v := 1) dX12_worthOf_39 (by decide) ?_
      refine T_goto (pc := 40) 44 dX12_worthOf_40 (by decide) ?_
      refine T_iadd (pc := 44) dX12_worthOf_44 ?_
      refine T_letI (fun x4 => ?_)
      refine T_istore (pc := 45) (lv' := [(0, .ref 10), (1, .int v1), (2, .int v2), (3, .int v3), (4, .int v4), (5, .int v5), (6, .int x4), (7, .int v7)]) dX12_worthOf_45 (Nat.le_of_ble_eq_true rfl) rfl ?_
      refine T_iinc (pc := 47) (y := 1) (lv' := [(0, .ref 10), (1, .int v1), (2, .int v2), (3, .int v3), (4, .int v4), (5, .int v5), (6, .int x4), (7, .int (v7 + (1 : Int32)))]) 7 dX12_worthOf_47 (by decide) rfl (Nat.le_of_ble_eq_true rfl) rfl ?_
      refine T_goto (pc := 50) 6 dX12_worthOf_50 (by decide) ?_
      exact hkb x4 (v7 + (1 : Int32))
set_option maxRecDepth 100000 in
set_option maxHeartbeats 4000000 in
theorem fX12_worthOf_P6_T (v1 : Int32) (v2 : Int32) (v3 : Int32) (v4 : Int32) (v5 : Int32) (σ : St) {k1 : Int32 → Option (Int32 × St)} (hk1 : ∀ (w6 : Int32), T kX12_worthOf cSi σ 53 [(0, .ref 10), (1, .int v1), (2, .int v2), (3, .int v3), (4, .int v4), (5, .int v5), (6, .int w6)] [] (k1 w6)) (v6 : Int32) (v7 : Int32) : T kX12_worthOf cSi σ 6 [(0, .ref 10), (1, .int v1), (2, .int v2), (3, .int v3), (4, .int v4), (5, .int v5), (6, .int v6), (7, .int v7)] [] (fX12_worthOf_P6 v1 v2 v3 v4 v5 k1 σ v6 v7) :=
  it_T (S := (fun _ : Int32 × Int32 => σ)) (lv := fun t : Int32 × Int32 => [(0, .ref 10), (1, .int v1), (2, .int v2), (3, .int v3), (4, .int v4), (5, .int v5), (6, .int t.1), (7, .int t.2)]) (st := fun _ => []) (fun kb hkb t => fX12_worthOf_L6_T v1 v2 v3 v4 v5 (hk1 := hk1) (hkb := fun v6 v7 => hkb (v6, v7)) σ t.1 t.2) FU (v6, v7)
set_option maxRecDepth 100000 in
set_option maxHeartbeats 4000000 in
theorem ctX12_worthOf (σ : St) (p0 : Int32) (p1 : Int32) (p2 : Int32) (p3 : Int32) (p4 : Int32) : Ct yX12_worthOf kX12_worthOf [.ref 10, .int p0, .int p1, .int p2, .int p3, .int p4] σ cSi (fX12_worthOf σ p0 p1 p2 p3 p4) := by
  refine Ct.of (by decide +kernel) rfl rfl (Nat.le_of_ble_eq_true rfl) ?_
  unfold fX12_worthOf
  show T _ _ _ 0 [(0, .ref 10), (1, .int p0), (2, .int p1), (3, .int p2), (4, .int p3), (5, .int p4)] [] _
  refine T_iconst (pc := 0) (v := 0) dX12_worthOf_0 (by decide) ?_
  refine T_istore (pc := 1) (lv' := [(0, .ref 10), (1, .int p0), (2, .int p1), (3, .int p2), (4, .int p3), (5, .int p4), (6, .int (0 : Int32))]) dX12_worthOf_1 (Nat.le_of_ble_eq_true rfl) rfl ?_
  refine T_iconst (pc := 3) (v := 0) dX12_worthOf_3 (by decide) ?_
  refine T_istore (pc := 4) (lv' := [(0, .ref 10), (1, .int p0), (2, .int p1), (3, .int p2), (4, .int p3), (5, .int p4), (6, .int (0 : Int32)), (7, .int (0 : Int32))]) dX12_worthOf_4 (Nat.le_of_ble_eq_true rfl) rfl ?_
  refine fX12_worthOf_P6_T p0 p1 p2 p3 p4 (hk1 := fun x5 => ?_) σ (0 : Int32) (0 : Int32)
  · refine T_aload_n (pc := 53) 0 dX12_worthOf_53 rfl rfl ?_
    refine T_getA (pc := 54) fd_10_5 hw1508 dX12_worthOf_54 ?_
    refine T_bipush (pc := 57) (v := 110) dX12_worthOf_57 (by decide) ?_
    refine T_iload (pc := 59) 4 dX12_worthOf_59 rfl ?_
    refine T_iast (pc := 61) rfl dX12_worthOf_61 ?_
    refine T_letS (fun s6 => ?_)
    refine T_aload_n (pc := 62) 0 dX12_worthOf_62 rfl rfl ?_
    refine T_getA (pc := 63) fd_10_5 hw1508 dX12_worthOf_63 ?_
    refine T_bipush (pc := 66) (v := 118) dX12_worthOf_66 (by decide) ?_
    refine T_iload (pc := 68) 6 dX12_worthOf_68 rfl ?_
    refine T_iast (pc := 70) rfl dX12_worthOf_70 ?_
    refine T_letS (fun s7 => ?_)
    refine T_aload_n (pc := 71) 0 dX12_worthOf_71 rfl rfl ?_
    refine T_getA (pc := 72) fd_10_5 hw1508 dX12_worthOf_72 ?_
    refine T_bipush (pc := 75) (v := 102) dX12_worthOf_75 (by decide) ?_
    refine T_aload_n (pc := 77) 0 dX12_worthOf_77 rfl rfl ?_
    refine T_getA (pc := 78) fd_10_2 hw1505 dX12_worthOf_78 ?_
    refine T_sipush (pc := 81) (v := 200) dX12_worthOf_81 (by decide) ?_
    refine T_iload_n (pc := 84) 2 dX12_worthOf_84 rfl rfl ?_
    refine T_imul (pc := 85) dX12_worthOf_85 ?_
    refine T_iload_n (pc := 86) 3 dX12_worthOf_86 rfl rfl ?_
    refine T_iadd (pc := 87) dX12_worthOf_87 ?_
    refine T_bald (pc := 88) rfl dX12_worthOf_88 (fun x8 => ?_)
    refine T_bipush (pc := 89) (v := 97) dX12_worthOf_89 (by decide) ?_
    refine T_isub (pc := 91) dX12_worthOf_91 ?_
    refine T_iconst (pc := 92) (v := 1) dX12_worthOf_92 (by decide) ?_
    refine T_iadd (pc := 93) dX12_worthOf_93 ?_
    refine T_iast (pc := 94) rfl dX12_worthOf_94 ?_
    refine T_letS (fun s9 => ?_)
    refine T_aload_n (pc := 95) 0 dX12_worthOf_95 rfl rfl ?_
    refine T_getA (pc := 96) fd_10_5 hw1508 dX12_worthOf_96 ?_
    refine T_bipush (pc := 99) (v := 108) dX12_worthOf_99 (by decide) ?_
    refine T_aload_n (pc := 101) 0 dX12_worthOf_101 rfl rfl ?_
    refine T_getA (pc := 102) fd_10_2 hw1505 dX12_worthOf_102 ?_
    refine T_sipush (pc := 105) (v := 200) dX12_worthOf_105 (by decide) ?_
    refine T_iload_n (pc := 108) 2 dX12_worthOf_108 rfl rfl ?_
    refine T_imul (pc := 109) dX12_worthOf_109 ?_
    refine T_iload_n (pc := 110) 3 dX12_worthOf_110 rfl rfl ?_
    refine T_iadd (pc := 111) dX12_worthOf_111 ?_
    refine T_iload (pc := 112) 4 dX12_worthOf_112 rfl ?_
    refine T_iadd (pc := 114) dX12_worthOf_114 ?_
    refine T_iconst (pc := 115) (v := 1) dX12_worthOf_115 (by decide) ?_
    refine T_isub (pc := 116) dX12_worthOf_116 ?_
    refine T_bald (pc := 117) rfl dX12_worthOf_117 (fun x10 => ?_)
    refine T_bipush (pc := 118) (v := 97) dX12_worthOf_118 (by decide) ?_
    refine T_isub (pc := 120) dX12_worthOf_120 ?_
    refine T_iconst (pc := 121) (v := 1) dX12_worthOf_121 (by decide) ?_
    refine T_iadd (pc := 122) dX12_worthOf_122 ?_
    refine T_iast (pc := 123) rfl dX12_worthOf_123 ?_
    refine T_letS (fun s11 => ?_)
    refine T_aload_n (pc := 124) 0 dX12_worthOf_124 rfl rfl ?_
    refine T_getA (pc := 125) fd_10_5 hw1508 dX12_worthOf_125 ?_
    refine T_bipush (pc := 128) (v := 119) dX12_worthOf_128 (by decide) ?_
    refine T_iload (pc := 130) 5 dX12_worthOf_130 rfl ?_
    refine T_iast (pc := 132) rfl dX12_worthOf_132 ?_
    refine T_letS (fun s12 => ?_)
    refine T_aload_n (pc := 133) 0 dX12_worthOf_133 rfl rfl ?_
    refine T_aload_n (pc := 134) 0 dX12_worthOf_134 rfl rfl ?_
    refine T_getA (pc := 135) fd_10_3 hw1506 dX12_worthOf_135 ?_
    refine T_sipush (pc := 138) (v := 200) dX12_worthOf_138 (by decide) ?_
    refine T_iload_n (pc := 141) 1 dX12_worthOf_141 rfl rfl ?_
    refine T_imul (pc := 142) dX12_worthOf_142 ?_
    refine T_aload_n (pc := 143) 0 dX12_worthOf_143 rfl rfl ?_
    refine T_getA (pc := 144) fd_10_4 hw1507 dX12_worthOf_144 ?_
    refine T_iload_n (pc := 147) 1 dX12_worthOf_147 rfl rfl ?_
    refine T_iald (pc := 148) rfl dX12_worthOf_148 (fun x13 => ?_)
    refine T_callSv (pc := 149) (rest := []) (Rn_V (pc := 149) (as := [.ref 57, .int ((200 : Int32) * p0), .int x13]) (rest := []) (ctX12_goThrough_57 s12 ((200 : Int32) * p0) x13) rfl rfl mv_X12_goThrough hw1735 rfl ⟨Nat.le_of_ble_eq_true rfl, Nat.le_of_ble_eq_true rfl⟩ (Nat.le_of_ble_eq_true rfl) dX12_worthOf_149 rfl) rfl (fun s14 => ?_)
    refine T_iconst (pc := 152) (v := 0) dX12_worthOf_152 (by decide) ?_
    refine T_bipush (pc := 153) (v := 100) dX12_worthOf_153 (by decide) ?_
    refine T_aload_n (pc := 155) 0 dX12_worthOf_155 rfl rfl ?_
    refine T_getI (pc := 156) fd_10_17 hw1520 dX12_worthOf_156 ?_
    refine T_callPi (pc := 159) (rest := [.int (0 : Int32)]) (Rn_S (pc := 159) (as := [.int (100 : Int32), .int (zI s14 41)]) (rest := [.int (0 : Int32)]) (ctJ9_min_7cf53 s14 (100 : Int32) (zI s14 41)) ms_J9_min_7cf53 hw1898 rfl ⟨Nat.le_of_ble_eq_true rfl, Nat.le_of_ble_eq_true rfl⟩ (Nat.le_of_ble_eq_true rfl) dX12_worthOf_159 rfl) rfl (fun x15 => ?_)
    refine T_callPi (pc := 162) (rest := []) (Rn_S (pc := 162) (as := [.int (0 : Int32), .int x15]) (rest := []) (ctJ9_max_7cf53 s14 (0 : Int32) x15) ms_J9_max_7cf53 hw1893 rfl ⟨Nat.le_of_ble_eq_true rfl, Nat.le_of_ble_eq_true rfl⟩ (Nat.le_of_ble_eq_true rfl) dX12_worthOf_162 rfl) rfl (fun x16 => ?_)
    exact T_ireturn (pc := 165) rfl dX12_worthOf_165 rfl
set_option maxRecDepth 100000 in
set_option maxHeartbeats 4000000 in
theorem ctX12_likely (σ : St) (p0 : Int32) (p1 : Int32) : Ct yX12_likely kX12_likely [.ref 10, .int p0, .int p1] σ cSi (fX12_likely σ p0 p1) := by
  refine Ct.of (by decide +kernel) rfl rfl (Nat.le_of_ble_eq_true rfl) ?_
  unfold fX12_likely
  show T _ _ _ 0 [(0, .ref 10), (1, .int p0), (2, .int p1)] [] _
  refine T_aload_n (pc := 0) 0 dX12_likely_0 rfl rfl ?_
  refine T_iconst (pc := 1) (v := 0) dX12_likely_1 (by decide) ?_
  refine T_putI (pc := 2) fd_10_0 hw1503 dX12_likely_2 ?_
  refine T_letS (fun s1 => ?_)
  refine T_aload_n (pc := 5) 0 dX12_likely_5 rfl rfl ?_
  refine T_iload_n (pc := 6) 1 dX12_likely_6 rfl rfl ?_
  refine T_callPz (pc := 7) (rest := []) (Rn_V (pc := 7) (as := [.int p0]) (rest := []) (ctX12_isSpeech s1 p0) rfl rfl mv_X12_isSpeech hw1849 rfl ⟨Nat.le_of_ble_eq_true rfl, Nat.le_of_ble_eq_true rfl⟩ (Nat.le_of_ble_eq_true rfl) dX12_likely_7 rfl) rfl (fun x2 => ?_)
  refine T_if_eq (pc := 10) 48 dX12_likely_10 (by decide) (fun _ => ?_) (fun _ => ?_)
  · refine T_iconst (pc := 48) (v := -1) dX12_likely_48 (by decide) ?_
    exact T_ireturn (pc := 49) rfl dX12_likely_49 rfl
  · refine T_aload_n (pc := 13) 0 dX12_likely_13 rfl rfl ?_
    refine T_iload_n (pc := 14) 2 dX12_likely_14 rfl rfl ?_
    refine T_callPz (pc := 15) (rest := []) (Rn_V (pc := 15) (as := [.int p1]) (rest := []) (ctX12_isRoll s1 p1) rfl rfl mv_X12_isRoll hw1853 rfl ⟨Nat.le_of_ble_eq_true rfl, Nat.le_of_ble_eq_true rfl⟩ (Nat.le_of_ble_eq_true rfl) dX12_likely_15 rfl) rfl (fun x3 => ?_)
    refine T_if_eq (pc := 18) 48 dX12_likely_18 (by decide) (fun _ => ?_) (fun _ => ?_)
    · refine T_iconst (pc := 48) (v := -1) dX12_likely_48 (by decide) ?_
      exact T_ireturn (pc := 49) rfl dX12_likely_49 rfl
    · refine T_aload_n (pc := 21) 0 dX12_likely_21 rfl rfl ?_
      refine T_getA (pc := 22) fd_10_22 hw1525 dX12_likely_22 ?_
      refine T_iload_n (pc := 25) 1 dX12_likely_25 rfl rfl ?_
      refine T_iald (pc := 26) rfl dX12_likely_26 (fun x4 => ?_)
      refine T_if_eq (pc := 27) 48 dX12_likely_27 (by decide) (fun _ => ?_) (fun _ => ?_)
      · refine T_iconst (pc := 48) (v := -1) dX12_likely_48 (by decide) ?_
        exact T_ireturn (pc := 49) rfl dX12_likely_49 rfl
      · refine T_iload_n (pc := 30) 1 dX12_likely_30 rfl rfl ?_
        refine T_bipush (pc := 31) (v := 16) dX12_likely_31 (by decide) ?_
        refine T_idiv (pc := 33) dX12_likely_33 ?_
        refine T_iload_n (pc := 34) 2 dX12_likely_34 rfl rfl ?_
        refine T_icmp_eq (pc := 35) 48 dX12_likely_35 (by decide) (fun _ => ?_) (fun _ => ?_)
        · refine T_iconst (pc := 48) (v := -1) dX12_likely_48 (by decide) ?_
          exact T_ireturn (pc := 49) rfl dX12_likely_49 rfl
        · refine T_aload_n (pc := 38) 0 dX12_likely_38 rfl rfl ?_
          refine T_getA (pc := 39) fd_10_30 hw1533 dX12_likely_39 ?_
          refine T_iload_n (pc := 42) 2 dX12_likely_42 rfl rfl ?_
          refine T_iald (pc := 43) rfl dX12_likely_43 (fun x5 => ?_)
          refine T_iconst (pc := 44) (v := -1) dX12_likely_44 (by decide) ?_
          refine T_icmp_ne (pc := 45) 50 dX12_likely_45 (by decide) (fun _ => ?_) (fun _ => ?_)
          · refine T_iconst (pc := 50) (v := 2) dX12_likely_50 (by decide) ?_
            refine T_iload_n (pc := 51) 1 dX12_likely_51 rfl rfl ?_
            refine T_imul (pc := 52) dX12_likely_52 ?_
            refine T_aload_n (pc := 53) 0 dX12_likely_53 rfl rfl ?_
            refine T_getA (pc := 54) fd_10_22 hw1525 dX12_likely_54 ?_
            refine T_iload_n (pc := 57) 1 dX12_likely_57 rfl rfl ?_
            refine T_iald (pc := 58) rfl dX12_likely_58 (fun x6 => ?_)
            refine T_iadd (pc := 59) dX12_likely_59 ?_
            refine T_iconst (pc := 60) (v := 1) dX12_likely_60 (by decide) ?_
            refine T_isub (pc := 61) dX12_likely_61 ?_
            refine T_letI (fun x7 => ?_)
            refine T_istore_n (pc := 62) (lv' := [(0, .ref 10), (1, .int p0), (2, .int p1), (3, .int x7)]) dX12_likely_62 rfl (Nat.le_of_ble_eq_true rfl) rfl ?_
            refine T_aload_n (pc := 63) 0 dX12_likely_63 rfl rfl ?_
            refine T_aload_n (pc := 64) 0 dX12_likely_64 rfl rfl ?_
            refine T_getA (pc := 65) fd_10_30 hw1533 dX12_likely_65 ?_
            refine T_iload_n (pc := 68) 2 dX12_likely_68 rfl rfl ?_
            refine T_iald (pc := 69) rfl dX12_likely_69 (fun x8 => ?_)
            refine T_iload_n (pc := 70) 1 dX12_likely_70 rfl rfl ?_
            refine T_bipush (pc := 71) (v := 16) dX12_likely_71 (by decide) ?_
            refine T_idiv (pc := 73) dX12_likely_73 ?_
            refine T_aload_n (pc := 74) 0 dX12_likely_74 rfl rfl ?_
            refine T_getA (pc := 75) fd_10_24 hw1527 dX12_likely_75 ?_
            refine T_iload_n (pc := 78) 3 dX12_likely_78 rfl rfl ?_
            refine T_iald (pc := 79) rfl dX12_likely_79 (fun x9 => ?_)
            refine T_aload_n (pc := 80) 0 dX12_likely_80 rfl rfl ?_
            refine T_getA (pc := 81) fd_10_25 hw1528 dX12_likely_81 ?_
            refine T_iload_n (pc := 84) 3 dX12_likely_84 rfl rfl ?_
            refine T_iald (pc := 85) rfl dX12_likely_85 (fun x10 => ?_)
            refine T_aload_n (pc := 86) 0 dX12_likely_86 rfl rfl ?_
            refine T_getA (pc := 87) fd_10_22 hw1525 dX12_likely_87 ?_
            refine T_iload_n (pc := 90) 1 dX12_likely_90 rfl rfl ?_
            refine T_iald (pc := 91) rfl dX12_likely_91 (fun x11 => ?_)
            refine T_iconst (pc := 92) (v := 1) dX12_likely_92 (by decide) ?_
            refine T_icmp_le (pc := 93) 107 dX12_likely_93 (by decide) (fun _ => ?_) (fun _ => ?_)
            · refine T_iconst (pc := 107) (v := 0) dX12_likely_107 (by decide) ?_
              refine T_callSi (pc := 108) (rest := []) (Rn_V (pc := 108) (as := [.int x8, .int (p0 / (16 : Int32)), .int x9, .int x10, .int (0 : Int32)]) (rest := []) (ctX12_worthOf s1 x8 (p0 / (16 : Int32)) x9 x10 (0 : Int32)) rfl rfl mv_X12_worthOf hw2112 rfl ⟨Nat.le_of_ble_eq_true rfl, Nat.le_of_ble_eq_true rfl⟩ (Nat.le_of_ble_eq_true rfl) dX12_likely_108 rfl) rfl (fun r12 => ?_)
              exact T_ireturn (pc := 111) rfl dX12_likely_111 rfl
            · refine T_aload_n (pc := 96) 0 dX12_likely_96 rfl rfl ?_
              refine T_getA (pc := 97) fd_10_25 hw1528 dX12_likely_97 ?_
              refine T_iload_n (pc := 100) 3 dX12_likely_100 rfl rfl ?_
              refine T_iconst (pc := 101) (v := 1) dX12_likely_101 (by decide) ?_
              refine T_isub (pc := 102) dX12_likely_102 ?_
              refine T_iald (pc := 103) rfl dX12_likely_103 (fun x13 => ?_)
              refine T_goto (pc := 104) 108 dX12_likely_104 (by decide) ?_
              refine T_callSi (pc := 108) (rest := []) (Rn_V (pc := 108) (as := [.int x8, .int (p0 / (16 : Int32)), .int x9, .int x10, .int x13]) (rest := []) (ctX12_worthOf s1 x8 (p0 / (16 : Int32)) x9 x10 x13) rfl rfl mv_X12_worthOf hw2112 rfl ⟨Nat.le_of_ble_eq_true rfl, Nat.le_of_ble_eq_true rfl⟩ (Nat.le_of_ble_eq_true rfl) dX12_likely_108 rfl) rfl (fun r14 => ?_)
              exact T_ireturn (pc := 111) rfl dX12_likely_111 rfl
          · refine T_iconst (pc := 48) (v := -1) dX12_likely_48 (by decide) ?_
            exact T_ireturn (pc := 49) rfl dX12_likely_49 rfl
set_option maxRecDepth 100000 in
set_option maxHeartbeats 4000000 in
theorem ctX12_limit (σ : St) (p0 : Int32) : Ct yX12_limit kX12_limit [.ref 10, .int p0] σ cSz (fX12_limit σ p0) := by
  refine Ct.of (by decide +kernel) rfl rfl (Nat.le_of_ble_eq_true rfl) ?_
  unfold fX12_limit
  show T _ _ _ 0 [(0, .ref 10), (1, .int p0)] [] _
  refine T_aload_n (pc := 0) 0 dX12_limit_0 rfl rfl ?_
  refine T_iconst (pc := 1) (v := 0) dX12_limit_1 (by decide) ?_
  refine T_putI (pc := 2) fd_10_0 hw1503 dX12_limit_2 ?_
  refine T_letS (fun s1 => ?_)
  refine T_iload_n (pc := 5) 1 dX12_limit_5 rfl rfl ?_
  refine T_iconst (pc := 6) (v := 0) dX12_limit_6 (by decide) ?_
  refine T_bipush (pc := 7) (v := 8) dX12_limit_7 (by decide) ?_
  refine T_callPz (pc := 9) (rest := []) (Rn_S (pc := 9) (as := [.int p0, .int (0 : Int32), .int (8 : Int32)]) (rest := []) (ctX12_isIn s1 p0 (0 : Int32) (8 : Int32)) ms_X12_isIn hw1689 rfl ⟨Nat.le_of_ble_eq_true rfl, Nat.le_of_ble_eq_true rfl⟩ (Nat.le_of_ble_eq_true rfl) dX12_limit_9 rfl) rfl (fun x2 => ?_)
  refine T_if_ne (pc := 12) 17 dX12_limit_12 (by decide) (fun _ => ?_) (fun _ => ?_)
  · refine T_aload_n (pc := 17) 0 dX12_limit_17 rfl rfl ?_
    refine T_iload_n (pc := 18) 1 dX12_limit_18 rfl rfl ?_
    refine T_putI (pc := 19) fd_10_36 hw1539 dX12_limit_19 ?_
    refine T_letS (fun s3 => ?_)
    refine T_iconst (pc := 22) (v := 1) dX12_limit_22 (by decide) ?_
    exact T_zreturn (pc := 23) true rfl dX12_limit_23 rfl rfl
  · refine T_iconst (pc := 15) (v := 0) dX12_limit_15 (by decide) ?_
    exact T_zreturn (pc := 16) false rfl dX12_limit_16 rfl rfl
set_option maxRecDepth 100000 in
set_option maxHeartbeats 4000000 in
theorem ctX12_many (σ : St) (p0 : Int32) : Ct yX12_many kX12_many [.ref 10, .int p0] σ cSi (fX12_many σ p0) := by
  refine Ct.of (by decide +kernel) rfl rfl (Nat.le_of_ble_eq_true rfl) ?_
  unfold fX12_many
  show T _ _ _ 0 [(0, .ref 10), (1, .int p0)] [] _
  refine T_aload_n (pc := 0) 0 dX12_many_0 rfl rfl ?_
  refine T_iconst (pc := 1) (v := 0) dX12_many_1 (by decide) ?_
  refine T_putI (pc := 2) fd_10_0 hw1503 dX12_many_2 ?_
  refine T_letS (fun s1 => ?_)
  refine T_aload_n (pc := 5) 0 dX12_many_5 rfl rfl ?_
  refine T_iload_n (pc := 6) 1 dX12_many_6 rfl rfl ?_
  refine T_callPz (pc := 7) (rest := []) (Rn_V (pc := 7) (as := [.int p0]) (rest := []) (ctX12_isRoll s1 p0) rfl rfl mv_X12_isRoll hw1853 rfl ⟨Nat.le_of_ble_eq_true rfl, Nat.le_of_ble_eq_true rfl⟩ (Nat.le_of_ble_eq_true rfl) dX12_many_7 rfl) rfl (fun x2 => ?_)
  refine T_if_eq (pc := 10) 22 dX12_many_10 (by decide) (fun _ => ?_) (fun _ => ?_)
  · refine T_iconst (pc := 22) (v := -1) dX12_many_22 (by decide) ?_
    exact T_ireturn (pc := 23) rfl dX12_many_23 rfl
  · refine T_aload_n (pc := 13) 0 dX12_many_13 rfl rfl ?_
    refine T_getA (pc := 14) fd_10_21 hw1524 dX12_many_14 ?_
    refine T_iload_n (pc := 17) 1 dX12_many_17 rfl rfl ?_
    refine T_iald (pc := 18) rfl dX12_many_18 (fun x3 => ?_)
    refine T_goto (pc := 19) 23 dX12_many_19 (by decide) ?_
    exact T_ireturn (pc := 23) rfl dX12_many_23 rfl
set_option maxRecDepth 100000 in
set_option maxHeartbeats 4000000 in
theorem ctX12_nearest (σ : St) (p0 : Int32) (p1 : Int32) : Ct yX12_nearest kX12_nearest [.ref 10, .int p0, .int p1] σ cSi (fX12_nearest σ p0 p1) := by
  refine Ct.of (by decide +kernel) rfl rfl (Nat.le_of_ble_eq_true rfl) ?_
  unfold fX12_nearest
  show T _ _ _ 0 [(0, .ref 10), (1, .int p0), (2, .int p1)] [] _
  refine T_aload_n (pc := 0) 0 dX12_nearest_0 rfl rfl ?_
  refine T_iconst (pc := 1) (v := 0) dX12_nearest_1 (by decide) ?_
  refine T_putI (pc := 2) fd_10_0 hw1503 dX12_nearest_2 ?_
  refine T_letS (fun s1 => ?_)
  refine T_aload_n (pc := 5) 0 dX12_nearest_5 rfl rfl ?_
  refine T_iload_n (pc := 6) 1 dX12_nearest_6 rfl rfl ?_
  refine T_iload_n (pc := 7) 2 dX12_nearest_7 rfl rfl ?_
  refine T_callPz (pc := 8) (rest := []) (Rn_V (pc := 8) (as := [.int p0, .int p1]) (rest := []) (ctX12_isOf s1 p0 p1) rfl rfl mv_X12_isOf hw1907 rfl ⟨Nat.le_of_ble_eq_true rfl, Nat.le_of_ble_eq_true rfl⟩ (Nat.le_of_ble_eq_true rfl) dX12_nearest_8 rfl) rfl (fun x2 => ?_)
  refine T_if_eq (pc := 11) 32 dX12_nearest_11 (by decide) (fun _ => ?_) (fun _ => ?_)
  · refine T_iconst (pc := 32) (v := -1) dX12_nearest_32 (by decide) ?_
    exact T_ireturn (pc := 33) rfl dX12_nearest_33 rfl
  · refine T_aload_n (pc := 14) 0 dX12_nearest_14 rfl rfl ?_
    refine T_getA (pc := 15) fd_10_22 hw1525 dX12_nearest_15 ?_
    refine T_iload_n (pc := 18) 1 dX12_nearest_18 rfl rfl ?_
    refine T_iald (pc := 19) rfl dX12_nearest_19 (fun x3 => ?_)
    refine T_if_le (pc := 20) 32 dX12_nearest_20 (by decide) (fun _ => ?_) (fun _ => ?_)
    · refine T_iconst (pc := 32) (v := -1) dX12_nearest_32 (by decide) ?_
      exact T_ireturn (pc := 33) rfl dX12_nearest_33 rfl
    · refine T_aload_n (pc := 23) 0 dX12_nearest_23 rfl rfl ?_
      refine T_iload_n (pc := 24) 1 dX12_nearest_24 rfl rfl ?_
      refine T_iload_n (pc := 25) 2 dX12_nearest_25 rfl rfl ?_
      refine T_callSi (pc := 26) (rest := []) (Rn_V (pc := 26) (as := [.int p0, .int p1]) (rest := []) (ctX12_nearestOf s1 p0 p1) rfl rfl mv_X12_nearestOf hw1923 rfl ⟨Nat.le_of_ble_eq_true rfl, Nat.le_of_ble_eq_true rfl⟩ (Nat.le_of_ble_eq_true rfl) dX12_nearest_26 rfl) rfl (fun r4 => ?_)
      refine T_goto (pc := 29) 33 dX12_nearest_29 (by decide) ?_
      exact T_ireturn (pc := 33) rfl dX12_nearest_33 rfl
set_option maxRecDepth 100000 in
set_option maxHeartbeats 4000000 in
theorem fX12_settlesOf_L5_T (v1 : Int32) (v2 : Int32) (σ : St) {kb : St → Int32 → Int32 → Option (Int32 × St)} (hkb : ∀ (σ' : St) (w3 : Int32) (w4 : Int32), T kX12_settlesOf cSi σ' 5 [(0, .ref 10), (1, .int v1), (2, .int v2), (3, .int w3), (4, .int w4)] [] (kb σ' w3 w4)) (v3 : Int32) (v4 : Int32) : T kX12_settlesOf cSi σ 5 [(0, .ref 10), (1, .int v1), (2, .int v2), (3, .int v3), (4, .int v4)] [] (fX12_settlesOf_L5 v1 v2 kb σ v3 v4) := by
  unfold fX12_settlesOf_L5
  refine T_iload (pc := 5) 4 dX12_settlesOf_5 rfl ?_
  refine T_sipush (pc := 7) (v := 128) dX12_settlesOf_7 (by decide) ?_
  refine T_icmp_ge (pc := 10) 76 dX12_settlesOf_10 (by decide) (fun _ => ?_) (fun _ => ?_)
  · refine T_iload_n (pc := 76) 3 dX12_settlesOf_76 rfl rfl ?_
    exact T_ireturn (pc := 77) rfl dX12_settlesOf_77 rfl
  · refine T_aload_n (pc := 13) 0 dX12_settlesOf_13 rfl rfl ?_
    refine T_iload (pc := 14) 4 dX12_settlesOf_14 rfl ?_
    refine T_iload_n (pc := 16) 2 dX12_settlesOf_16 rfl rfl ?_
    refine T_callPz (pc := 17) (rest := []) (Rn_V (pc := 17) (as := [.int v4, .int v2]) (rest := []) (ctX12_isOf σ v4 v2) rfl rfl mv_X12_isOf hw1907 rfl ⟨Nat.le_of_ble_eq_true rfl, Nat.le_of_ble_eq_true rfl⟩ (Nat.le_of_ble_eq_true rfl) dX12_settlesOf_17 rfl) rfl (fun x1 => ?_)
    refine T_if_eq (pc := 20) 70 dX12_settlesOf_20 (by decide) (fun _ => ?_) (fun _ => ?_)
    · refine T_iinc (pc := 70) (y := 1) (lv' := [(0, .ref 10), (1, .int v1), (2, .int v2), (3, .int v3), (4, .int (v4 + (1 : Int32)))]) 4 dX12_settlesOf_70 (by decide) rfl (Nat.le_of_ble_eq_true rfl) rfl ?_
      refine T_goto (pc := 73) 5 dX12_settlesOf_73 (by decide) ?_
      exact hkb σ v3 (v4 + (1 : Int32))
    · refine T_aload_n (pc := 23) 0 dX12_settlesOf_23 rfl rfl ?_
      refine T_iload (pc := 24) 4 dX12_settlesOf_24 rfl ?_
      refine T_iload_n (pc := 26) 2 dX12_settlesOf_26 rfl rfl ?_
      refine T_callSi (pc := 27) (rest := []) (Rn_V (pc := 27) (as := [.int v4, .int v2]) (rest := []) (ctX12_kindOf σ v4 v2) rfl rfl mv_X12_kindOf hw1915 rfl ⟨Nat.le_of_ble_eq_true rfl, Nat.le_of_ble_eq_true rfl⟩ (Nat.le_of_ble_eq_true rfl) dX12_settlesOf_27 rfl) rfl (fun r2 => ?_)
      refine T_iconst (pc := 30) (v := 4) dX12_settlesOf_30 (by decide) ?_
      refine T_icmp_ge (pc := 31) 37 dX12_settlesOf_31 (by decide) (fun _ => ?_) (fun _ => ?_)
      · refine T_aload_n (pc := 37) 0 dX12_settlesOf_37 rfl rfl ?_
        refine T_iload (pc := 38) 4 dX12_settlesOf_38 rfl ?_
        refine T_iload_n (pc := 40) 2 dX12_settlesOf_40 rfl rfl ?_
        refine T_iconst (pc := 41) (v := 1) dX12_settlesOf_41 (by decide) ?_
        refine T_iload_n (pc := 42) 1 dX12_settlesOf_42 rfl rfl ?_
        refine T_ishl (pc := 43) dX12_settlesOf_43 ?_
        refine T_ior (pc := 44) dX12_settlesOf_44 ?_
        refine T_callSi (pc := 45) (rest := []) (Rn_V (pc := 45) (as := [.int v4, .int (v2 ||| ((1 : Int32) <<< (v1 &&& 31)))]) (rest := []) (ctX12_kindOf r2.2 v4 (v2 ||| ((1 : Int32) <<< (v1 &&& 31)))) rfl rfl mv_X12_kindOf hw1915 rfl ⟨Nat.le_of_ble_eq_true rfl, Nat.le_of_ble_eq_true rfl⟩ (Nat.le_of_ble_eq_true rfl) dX12_settlesOf_45 rfl) rfl (fun r3 => ?_)
        refine T_istore (pc := 48) (lv' := [(0, .ref 10), (1, .int v1), (2, .int v2), (3, .int v3), (4, .int v4), (5, .int r3.1)]) dX12_settlesOf_48 (Nat.le_of_ble_eq_true rfl) rfl ?_
        refine T_iload_n (pc := 50) 3 dX12_settlesOf_50 rfl rfl ?_
        refine T_iload (pc := 51) 5 dX12_settlesOf_51 rfl ?_
        refine T_iconst (pc := 53) (v := 1) dX12_settlesOf_53 (by decide) ?_
        refine T_icmp_eq (pc := 54) 63 dX12_settlesOf_54 (by decide) (fun _ => ?_) (fun _ => ?_)
        · refine T_iconst (pc := 63) (v := 1) dX12_settlesOf_63 (by decide) ?_
          refine T_goto (pc := 64) 68 dX12_settlesOf_64 (by decide) ?_
          refine T_iadd (pc := 68) dX12_settlesOf_68 ?_
          refine T_letI (fun x4 => ?_)
          refine T_istore_n (pc := 69) (lv' := [(0, .ref 10), (1, .int v1), (2, .int v2), (3, .int x4), (4, .int v4), (5, .int r3.1)]) dX12_settlesOf_69 rfl (Nat.le_of_ble_eq_true rfl) rfl ?_
          refine T_iinc (pc := 70) (y := 1) (lv' := [(0, .ref 10), (1, .int v1), (2, .int v2), (3, .int x4), (4, .int (v4 + (1 : Int32))), (5, .int r3.1)]) 4 dX12_settlesOf_70 (by decide) rfl (Nat.le_of_ble_eq_true rfl) rfl ?_
          refine T_goto (pc := 73) 5 dX12_settlesOf_73 (by decide) ?_
          refine T_pick (lv' := [(0, .ref 10), (1, .int v1), (2, .int v2), (3, .int x4), (4, .int (v4 + (1 : Int32)))]) [0, 1, 2, 3, 4] rfl ?_
          exact hkb r3.2 x4 (v4 + (1 : Int32))
        · refine T_iload (pc := 57) 5 dX12_settlesOf_57 rfl ?_
          refine T_iconst (pc := 59) (v := 2) dX12_settlesOf_59 (by decide) ?_
          refine T_icmp_ne (pc := 60) 67 dX12_settlesOf_60 (by decide) (fun _ => ?_) (fun _ => ?_)
          · refine T_iconst (pc := 67) (v := 0) dX12_settlesOf_67 (by decide) ?_
            refine T_iadd (pc := 68) dX12_settlesOf_68 ?_
            refine T_letI (fun x5 => ?_)
            refine T_istore_n (pc := 69) (lv' := [(0, .ref 10), (1, .int v1), (2, .int v2), (3, .int x5), (4, .int v4), (5, .int r3.1)]) dX12_settlesOf_69 rfl (Nat.le_of_ble_eq_true rfl) rfl ?_
            refine T_iinc (pc := 70) (y := 1) (lv' := [(0, .ref 10), (1, .int v1), (2, .int v2), (3, .int x5), (4, .int (v4 + (1 : Int32))), (5, .int r3.1)]) 4 dX12_settlesOf_70 (by decide) rfl (Nat.le_of_ble_eq_true rfl) rfl ?_
            refine T_goto (pc := 73) 5 dX12_settlesOf_73 (by decide) ?_
            refine T_pick (lv' := [(0, .ref 10), (1, .int v1), (2, .int v2), (3, .int x5), (4, .int (v4 + (1 : Int32)))]) [0, 1, 2, 3, 4] rfl ?_
            exact hkb r3.2 x5 (v4 + (1 : Int32))
          · refine T_iconst (pc := 63) (v := 1) dX12_settlesOf_63 (by decide) ?_
            refine T_goto (pc := 64) 68 dX12_settlesOf_64 (by decide) ?_
            refine T_iadd (pc := 68) dX12_settlesOf_68 ?_
            refine T_letI (fun x6 => ?_)
            refine T_istore_n (pc := 69) (lv' := [(0, .ref 10), (1, .int v1), (2, .int v2), (3, .int x6), (4, .int v4), (5, .int r3.1)]) dX12_settlesOf_69 rfl (Nat.le_of_ble_eq_true rfl) rfl ?_
            refine T_iinc (pc := 70) (y := 1) (lv' := [(0, .ref 10), (1, .int v1), (2, .int v2), (3, .int x6), (4, .int (v4 + (1 : Int32))), (5, .int r3.1)]) 4 dX12_settlesOf_70 (by decide) rfl (Nat.le_of_ble_eq_true rfl) rfl ?_
            refine T_goto (pc := 73) 5 dX12_settlesOf_73 (by decide) ?_
            refine T_pick (lv' := [(0, .ref 10), (1, .int v1), (2, .int v2), (3, .int x6), (4, .int (v4 + (1 : Int32)))]) [0, 1, 2, 3, 4] rfl ?_
            exact hkb r3.2 x6 (v4 + (1 : Int32))
      · refine T_goto (pc := 34) 70 dX12_settlesOf_34 (by decide) ?_
        refine T_iinc (pc := 70) (y := 1) (lv' := [(0, .ref 10), (1, .int v1), (2, .int v2), (3, .int v3), (4, .int (v4 + (1 : Int32)))]) 4 dX12_settlesOf_70 (by decide) rfl (Nat.le_of_ble_eq_true rfl) rfl ?_
        refine T_goto (pc := 73) 5 dX12_settlesOf_73 (by decide) ?_
        exact hkb r2.2 v3 (v4 + (1 : Int32))
set_option maxRecDepth 100000 in
set_option maxHeartbeats 4000000 in
theorem fX12_settlesOf_P5_T (v1 : Int32) (v2 : Int32) (σ : St) (v3 : Int32) (v4 : Int32) : T kX12_settlesOf cSi σ 5 [(0, .ref 10), (1, .int v1), (2, .int v2), (3, .int v3), (4, .int v4)] [] (fX12_settlesOf_P5 v1 v2 σ v3 v4) :=
  it_T (S := (fun t : St × Int32 × Int32 => t.1)) (lv := fun t : St × Int32 × Int32 => [(0, .ref 10), (1, .int v1), (2, .int v2), (3, .int t.2.1), (4, .int t.2.2)]) (st := fun _ => []) (fun kb hkb t => fX12_settlesOf_L5_T v1 v2 (hkb := fun σ v3 v4 => hkb (σ, v3, v4)) t.1 t.2.1 t.2.2) FU (σ, v3, v4)
set_option maxRecDepth 100000 in
set_option maxHeartbeats 4000000 in
theorem ctX12_settlesOf (σ : St) (p0 : Int32) (p1 : Int32) : Ct yX12_settlesOf kX12_settlesOf [.ref 10, .int p0, .int p1] σ cSi (fX12_settlesOf σ p0 p1) := by
  refine Ct.of (by decide +kernel) rfl rfl (Nat.le_of_ble_eq_true rfl) ?_
  unfold fX12_settlesOf
  show T _ _ _ 0 [(0, .ref 10), (1, .int p0), (2, .int p1)] [] _
  refine T_iconst (pc := 0) (v := 0) dX12_settlesOf_0 (by decide) ?_
  refine T_istore_n (pc := 1) (lv' := [(0, .ref 10), (1, .int p0), (2, .int p1), (3, .int (0 : Int32))]) dX12_settlesOf_1 rfl (Nat.le_of_ble_eq_true rfl) rfl ?_
  refine T_iconst (pc := 2) (v := 0) dX12_settlesOf_2 (by decide) ?_
  refine T_istore (pc := 3) (lv' := [(0, .ref 10), (1, .int p0), (2, .int p1), (3, .int (0 : Int32)), (4, .int (0 : Int32))]) dX12_settlesOf_3 (Nat.le_of_ble_eq_true rfl) rfl ?_
  exact fX12_settlesOf_P5_T p0 p1 σ (0 : Int32) (0 : Int32)
set_option maxRecDepth 100000 in
set_option maxHeartbeats 4000000 in
theorem fX12_next_L22_T (v1 : Int32) (σ : St) {kb : St → Int32 → Int32 → Int32 → Option (Int32 × St)} (hkb : ∀ (σ' : St) (w2 : Int32) (w3 : Int32) (w4 : Int32), T kX12_next cSi σ' 22 [(0, .ref 10), (1, .int v1), (2, .int w2), (3, .int w3), (4, .int w4)] [] (kb σ' w2 w3 w4)) (v2 : Int32) (v3 : Int32) (v4 : Int32) : T kX12_next cSi σ 22 [(0, .ref 10), (1, .int v1), (2, .int v2), (3, .int v3), (4, .int v4)] [] (fX12_next_L22 v1 kb σ v2 v3 v4) := by
  unfold fX12_next_L22
  refine T_iload (pc := 22) 4 dX12_next_22 rfl ?_
  refine T_aload_n (pc := 24) 0 dX12_next_24 rfl rfl ?_
  refine T_getI (pc := 25) fd_10_8 hw1511 dX12_next_25 ?_
  refine T_icmp_ge (pc := 28) 78 dX12_next_28 (by decide) (fun _ => ?_) (fun _ => ?_)
  · refine T_iload_n (pc := 78) 2 dX12_next_78 rfl rfl ?_
    exact T_ireturn (pc := 79) rfl dX12_next_79 rfl
  · refine T_iload_n (pc := 31) 1 dX12_next_31 rfl rfl ?_
    refine T_iload (pc := 32) 4 dX12_next_32 rfl ?_
    refine T_callPz (pc := 34) (rest := []) (Rn_S (pc := 34) (as := [.int v1, .int v4]) (rest := []) (ctX12_has σ v1 v4) ms_X12_has hw1732 rfl ⟨Nat.le_of_ble_eq_true rfl, Nat.le_of_ble_eq_true rfl⟩ (Nat.le_of_ble_eq_true rfl) dX12_next_34 rfl) rfl (fun x3 => ?_)
    refine T_if_eq (pc := 37) 43 dX12_next_37 (by decide) (fun _ => ?_) (fun _ => ?_)
    · refine T_aload_n (pc := 43) 0 dX12_next_43 rfl rfl ?_
      refine T_iload (pc := 44) 4 dX12_next_44 rfl ?_
      refine T_iload_n (pc := 46) 1 dX12_next_46 rfl rfl ?_
      refine T_callSi (pc := 47) (rest := []) (Rn_V (pc := 47) (as := [.int v4, .int v1]) (rest := []) (ctX12_settlesOf σ v4 v1) rfl rfl mv_X12_settlesOf hw1996 rfl ⟨Nat.le_of_ble_eq_true rfl, Nat.le_of_ble_eq_true rfl⟩ (Nat.le_of_ble_eq_true rfl) dX12_next_47 rfl) rfl (fun r4 => ?_)
      refine T_istore (pc := 50) (lv' := [(0, .ref 10), (1, .int v1), (2, .int v2), (3, .int v3), (4, .int v4), (5, .int r4.1)]) dX12_next_50 (Nat.le_of_ble_eq_true rfl) rfl ?_
      refine T_iload_n (pc := 52) 2 dX12_next_52 rfl rfl ?_
      refine T_iconst (pc := 53) (v := -1) dX12_next_53 (by decide) ?_
      refine T_icmp_eq (pc := 54) 66 dX12_next_54 (by decide) (fun _ => ?_) (fun _ => ?_)
      · refine T_iload (pc := 66) 4 dX12_next_66 rfl ?_
        refine T_istore_n (pc := 68) (lv' := [(0, .ref 10), (1, .int v1), (2, .int v4), (3, .int v3), (4, .int v4), (5, .int r4.1)]) dX12_next_68 rfl (Nat.le_of_ble_eq_true rfl) rfl ?_
        refine T_iload (pc := 69) 5 dX12_next_69 rfl ?_
        refine T_istore_n (pc := 71) (lv' := [(0, .ref 10), (1, .int v1), (2, .int v4), (3, .int r4.1), (4, .int v4), (5, .int r4.1)]) dX12_next_71 rfl (Nat.le_of_ble_eq_true rfl) rfl ?_
        refine T_iinc (pc := 72) (y := 1) (lv' := [(0, .ref 10), (1, .int v1), (2, .int v4), (3, .int r4.1), (4, .int (v4 + (1 : Int32))), (5, .int r4.1)]) 4 dX12_next_72 (by decide) rfl (Nat.le_of_ble_eq_true rfl) rfl ?_
        refine T_goto (pc := 75) 22 dX12_next_75 (by decide) ?_
        refine T_pick (lv' := [(0, .ref 10), (1, .int v1), (2, .int v4), (3, .int r4.1), (4, .int (v4 + (1 : Int32)))]) [0, 1, 2, 3, 4] rfl ?_
        exact hkb r4.2 v4 r4.1 (v4 + (1 : Int32))
      · refine T_iload (pc := 57) 5 dX12_next_57 rfl ?_
        refine T_iload_n (pc := 59) 3 dX12_next_59 rfl rfl ?_
        refine T_icmp_gt (pc := 60) 66 dX12_next_60 (by decide) (fun _ => ?_) (fun _ => ?_)
        · refine T_iload (pc := 66) 4 dX12_next_66 rfl ?_
          refine T_istore_n (pc := 68) (lv' := [(0, .ref 10), (1, .int v1), (2, .int v4), (3, .int v3), (4, .int v4), (5, .int r4.1)]) dX12_next_68 rfl (Nat.le_of_ble_eq_true rfl) rfl ?_
          refine T_iload (pc := 69) 5 dX12_next_69 rfl ?_
          refine T_istore_n (pc := 71) (lv' := [(0, .ref 10), (1, .int v1), (2, .int v4), (3, .int r4.1), (4, .int v4), (5, .int r4.1)]) dX12_next_71 rfl (Nat.le_of_ble_eq_true rfl) rfl ?_
          refine T_iinc (pc := 72) (y := 1) (lv' := [(0, .ref 10), (1, .int v1), (2, .int v4), (3, .int r4.1), (4, .int (v4 + (1 : Int32))), (5, .int r4.1)]) 4 dX12_next_72 (by decide) rfl (Nat.le_of_ble_eq_true rfl) rfl ?_
          refine T_goto (pc := 75) 22 dX12_next_75 (by decide) ?_
          refine T_pick (lv' := [(0, .ref 10), (1, .int v1), (2, .int v4), (3, .int r4.1), (4, .int (v4 + (1 : Int32)))]) [0, 1, 2, 3, 4] rfl ?_
          exact hkb r4.2 v4 r4.1 (v4 + (1 : Int32))
        · refine T_goto (pc := 63) 72 dX12_next_63 (by decide) ?_
          refine T_iinc (pc := 72) (y := 1) (lv' := [(0, .ref 10), (1, .int v1), (2, .int v2), (3, .int v3), (4, .int (v4 + (1 : Int32))), (5, .int r4.1)]) 4 dX12_next_72 (by decide) rfl (Nat.le_of_ble_eq_true rfl) rfl ?_
          refine T_goto (pc := 75) 22 dX12_next_75 (by decide) ?_
          refine T_pick (lv' := [(0, .ref 10), (1, .int v1), (2, .int v2), (3, .int v3), (4, .int (v4 + (1 : Int32)))]) [0, 1, 2, 3, 4] rfl ?_
          exact hkb r4.2 v2 v3 (v4 + (1 : Int32))
    · refine T_goto (pc := 40) 72 dX12_next_40 (by decide) ?_
      refine T_iinc (pc := 72) (y := 1) (lv' := [(0, .ref 10), (1, .int v1), (2, .int v2), (3, .int v3), (4, .int (v4 + (1 : Int32)))]) 4 dX12_next_72 (by decide) rfl (Nat.le_of_ble_eq_true rfl) rfl ?_
      refine T_goto (pc := 75) 22 dX12_next_75 (by decide) ?_
      exact hkb σ v2 v3 (v4 + (1 : Int32))
set_option maxRecDepth 100000 in
set_option maxHeartbeats 4000000 in
theorem fX12_next_P22_T (v1 : Int32) (σ : St) (v2 : Int32) (v3 : Int32) (v4 : Int32) : T kX12_next cSi σ 22 [(0, .ref 10), (1, .int v1), (2, .int v2), (3, .int v3), (4, .int v4)] [] (fX12_next_P22 v1 σ v2 v3 v4) :=
  it_T (S := (fun t : St × Int32 × Int32 × Int32 => t.1)) (lv := fun t : St × Int32 × Int32 × Int32 => [(0, .ref 10), (1, .int v1), (2, .int t.2.1), (3, .int t.2.2.1), (4, .int t.2.2.2)]) (st := fun _ => []) (fun kb hkb t => fX12_next_L22_T v1 (hkb := fun σ v2 v3 v4 => hkb (σ, v2, v3, v4)) t.1 t.2.1 t.2.2.1 t.2.2.2) FU (σ, v2, v3, v4)
set_option maxRecDepth 100000 in
set_option maxHeartbeats 4000000 in
theorem ctX12_next (σ : St) (p0 : Int32) : Ct yX12_next kX12_next [.ref 10, .int p0] σ cSi (fX12_next σ p0) := by
  refine Ct.of (by decide +kernel) rfl rfl (Nat.le_of_ble_eq_true rfl) ?_
  unfold fX12_next
  show T _ _ _ 0 [(0, .ref 10), (1, .int p0)] [] _
  refine T_aload_n (pc := 0) 0 dX12_next_0 rfl rfl ?_
  refine T_iconst (pc := 1) (v := 0) dX12_next_1 (by decide) ?_
  refine T_putI (pc := 2) fd_10_0 hw1503 dX12_next_2 ?_
  refine T_letS (fun s1 => ?_)
  refine T_aload_n (pc := 5) 0 dX12_next_5 rfl rfl ?_
  refine T_iload_n (pc := 6) 1 dX12_next_6 rfl rfl ?_
  refine T_callPz (pc := 7) (rest := []) (Rn_V (pc := 7) (as := [.int p0]) (rest := []) (ctX12_areRolls s1 p0) rfl rfl mv_X12_areRolls hw1911 rfl ⟨Nat.le_of_ble_eq_true rfl, Nat.le_of_ble_eq_true rfl⟩ (Nat.le_of_ble_eq_true rfl) dX12_next_7 rfl) rfl (fun x2 => ?_)
  refine T_if_ne (pc := 10) 15 dX12_next_10 (by decide) (fun _ => ?_) (fun _ => ?_)
  · refine T_iconst (pc := 15) (v := -1) dX12_next_15 (by decide) ?_
    refine T_istore_n (pc := 16) (lv' := [(0, .ref 10), (1, .int p0), (2, .int (-1 : Int32))]) dX12_next_16 rfl (Nat.le_of_ble_eq_true rfl) rfl ?_
    refine T_iconst (pc := 17) (v := 0) dX12_next_17 (by decide) ?_
    refine T_istore_n (pc := 18) (lv' := [(0, .ref 10), (1, .int p0), (2, .int (-1 : Int32)), (3, .int (0 : Int32))]) dX12_next_18 rfl (Nat.le_of_ble_eq_true rfl) rfl ?_
    refine T_iconst (pc := 19) (v := 0) dX12_next_19 (by decide) ?_
    refine T_istore (pc := 20) (lv' := [(0, .ref 10), (1, .int p0), (2, .int (-1 : Int32)), (3, .int (0 : Int32)), (4, .int (0 : Int32))]) dX12_next_20 (Nat.le_of_ble_eq_true rfl) rfl ?_
    exact fX12_next_P22_T p0 s1 (-1 : Int32) (0 : Int32) (0 : Int32)
  · refine T_iconst (pc := 13) (v := -1) dX12_next_13 (by decide) ?_
    exact T_ireturn (pc := 14) rfl dX12_next_14 rfl
