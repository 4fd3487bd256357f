/-! methods X3_takeScene .. X9_put: by program (wip/gen) -/
set_option maxRecDepth 100000 in
set_option maxHeartbeats 4000000 in
theorem fX3_takeScene_L6_T (σ : St) {k1 : St → Int32 → Option (Int32 × St)} {kb : St → Int32 → Int32 → Int32 → Option (Int32 × St)} (hk1 : ∀ (σ' : St) (w1 : Int32), T kX3_takeScene cSi σ' 73 [(0, .ref 3), (1, .int w1)] [] (k1 σ' w1)) (hkb : ∀ (σ' : St) (w1 : Int32) (w2 : Int32) (w3 : Int32), T kX3_takeScene cSi σ' 6 [(0, .ref 3), (1, .int w1), (2, .int w2), (3, .int w3)] [] (kb σ' w1 w2 w3)) (v1 : Int32) (v2 : Int32) (v3 : Int32) : T kX3_takeScene cSi σ 6 [(0, .ref 3), (1, .int v1), (2, .int v2), (3, .int v3)] [] (fX3_takeScene_L6 k1 kb σ v1 v2 v3) := by
  unfold fX3_takeScene_L6
  refine T_iload_n (pc := 6) 3 dX3_takeScene_6 rfl rfl ?_
  refine T_bipush (pc := 7) (v := 10) dX3_takeScene_7 (by decide) ?_
  refine T_icmp_ge (pc := 9) 73 dX3_takeScene_9 (by decide) (fun _ => ?_) (fun _ => ?_)
  · refine T_pick (lv' := [(0, .ref 3), (1, .int v1)]) [0, 1] rfl ?_
    exact hk1 σ v1
  · refine T_iload_n (pc := 12) 2 dX3_takeScene_12 rfl rfl ?_
    refine T_if_eq (pc := 13) 73 dX3_takeScene_13 (by decide) (fun _ => ?_) (fun _ => ?_)
    · refine T_pick (lv' := [(0, .ref 3), (1, .int v1)]) [0, 1] rfl ?_
      exact hk1 σ v1
    · refine T_aload_n (pc := 16) 0 dX3_takeScene_16 rfl rfl ?_
      refine T_callPi (pc := 17) (rest := []) (Rn_U (pc := 17) (x := ⟨"CueRolls$PlotReader", "sign", "()I"⟩) (as := []) (rest := []) (ctX5_sign_p σ) rfl rfl mu_X3_X3_X5_sign hw683 rfl rfl ⟨Nat.le_of_ble_eq_true rfl, Nat.le_of_ble_eq_true rfl⟩ (Nat.le_of_ble_eq_true rfl) dX3_takeScene_17 rfl) rfl (fun x1 => ?_)
      refine T_bipush (pc := 20) (v := 97) dX3_takeScene_20 (by decide) ?_
      refine T_isub (pc := 22) dX3_takeScene_22 ?_
      refine T_letI (fun x2 => ?_)
      refine T_istore (pc := 23) (lv' := [(0, .ref 3), (1, .int v1), (2, .int v2), (3, .int v3), (4, .int x2)]) dX3_takeScene_23 (Nat.le_of_ble_eq_true rfl) rfl ?_
      refine T_iload (pc := 25) 4 dX3_takeScene_25 rfl ?_
      refine T_if_lt (pc := 27) 50 dX3_takeScene_27 (by decide) (fun _ => ?_) (fun _ => ?_)
      · refine T_iconst (pc := 50) (v := 0) dX3_takeScene_50 (by decide) ?_
        refine T_istore_n (pc := 51) (lv' := [(0, .ref 3), (1, .int v1), (2, .int (0 : Int32)), (3, .int v3), (4, .int x2)]) dX3_takeScene_51 rfl (Nat.le_of_ble_eq_true rfl) rfl ?_
        refine T_iload_n (pc := 52) 2 dX3_takeScene_52 rfl rfl ?_
        refine T_if_eq (pc := 53) 67 dX3_takeScene_53 (by decide) (fun _ => ?_) (fun _ => ?_)
        · refine T_iinc (pc := 67) (y := 1) (lv' := [(0, .ref 3), (1, .int v1), (2, .int (0 : Int32)), (3, .int (v3 + (1 : Int32))), (4, .int x2)]) 3 dX3_takeScene_67 (by decide) rfl (Nat.le_of_ble_eq_true rfl) rfl ?_
          refine T_goto (pc := 70) 6 dX3_takeScene_70 (by decide) ?_
          refine T_pick (lv' := [(0, .ref 3), (1, .int v1), (2, .int (0 : Int32)), (3, .int (v3 + (1 : Int32)))]) [0, 1, 2, 3] rfl ?_
          exact hkb σ v1 (0 : Int32) (v3 + (1 : Int32))
        · refine T_iload_n (pc := 56) 1 dX3_takeScene_56 rfl rfl ?_
          refine T_iconst (pc := 57) (v := 1) dX3_takeScene_57 (by decide) ?_
          refine T_iload (pc := 58) 4 dX3_takeScene_58 rfl ?_
          refine T_ishl (pc := 60) dX3_takeScene_60 ?_
          refine T_ior (pc := 61) dX3_takeScene_61 ?_
          refine T_letI (fun x3 => ?_)
          refine T_istore_n (pc := 62) (lv' := [(0, .ref 3), (1, .int x3), (2, .int (0 : Int32)), (3, .int v3), (4, .int x2)]) dX3_takeScene_62 rfl (Nat.le_of_ble_eq_true rfl) rfl ?_
          refine T_aload_n (pc := 63) 0 dX3_takeScene_63 rfl rfl ?_
          refine T_callSv (pc := 64) (rest := []) (Rn_U (pc := 64) (x := ⟨"CueRolls$PlotReader", "step", "()V"⟩) (as := []) (rest := []) (ctX5_step_p σ) rfl rfl mu_X3_X3_X5_step hw686 rfl rfl ⟨Nat.le_of_ble_eq_true rfl, Nat.le_of_ble_eq_true rfl⟩ (Nat.le_of_ble_eq_true rfl) dX3_takeScene_64 rfl) rfl (fun s4 => ?_)
          refine T_iinc (pc := 67) (y := 1) (lv' := [(0, .ref 3), (1, .int x3), (2, .int (0 : Int32)), (3, .int (v3 + (1 : Int32))), (4, .int x2)]) 3 dX3_takeScene_67 (by decide) rfl (Nat.le_of_ble_eq_true rfl) rfl ?_
          refine T_goto (pc := 70) 6 dX3_takeScene_70 (by decide) ?_
          refine T_pick (lv' := [(0, .ref 3), (1, .int x3), (2, .int (0 : Int32)), (3, .int (v3 + (1 : Int32)))]) [0, 1, 2, 3] rfl ?_
          exact hkb s4 x3 (0 : Int32) (v3 + (1 : Int32))
      · refine T_iload (pc := 30) 4 dX3_takeScene_30 rfl ?_
        refine T_bipush (pc := 32) (v := 10) dX3_takeScene_32 (by decide) ?_
        refine T_icmp_ge (pc := 34) 50 dX3_takeScene_34 (by decide) (fun _ => ?_) (fun _ => ?_)
        · refine T_iconst (pc := 50) (v := 0) dX3_takeScene_50 (by decide) ?_
          refine T_istore_n (pc := 51) (lv' := [(0, .ref 3), (1, .int v1), (2, .int (0 : Int32)), (3, .int v3), (4, .int x2)]) dX3_takeScene_51 rfl (Nat.le_of_ble_eq_true rfl) rfl ?_
          refine T_iload_n (pc := 52) 2 dX3_takeScene_52 rfl rfl ?_
          refine T_if_eq (pc := 53) 67 dX3_takeScene_53 (by decide) (fun _ => ?_) (fun _ => ?_)
          · refine T_iinc (pc := 67) (y := 1) (lv' := [(0, .ref 3), (1, .int v1), (2, .int (0 : Int32)), (3, .int (v3 + (1 : Int32))), (4, .int x2)]) 3 dX3_takeScene_67 (by decide) rfl (Nat.le_of_ble_eq_true rfl) rfl ?_
            refine T_goto (pc := 70) 6 dX3_takeScene_70 (by decide) ?_
            refine T_pick (lv' := [(0, .ref 3), (1, .int v1), (2, .int (0 : Int32)), (3, .int (v3 + (1 : Int32)))]) [0, 1, 2, 3] rfl ?_
            exact hkb σ v1 (0 : Int32) (v3 + (1 : Int32))
          · refine T_iload_n (pc := 56) 1 dX3_takeScene_56 rfl rfl ?_
            refine T_iconst (pc := 57) (v := 1) dX3_takeScene_57 (by decide) ?_
            refine T_iload (pc := 58) 4 dX3_takeScene_58 rfl ?_
            refine T_ishl (pc := 60) dX3_takeScene_60 ?_
            refine T_ior (pc := 61) dX3_takeScene_61 ?_
            refine T_letI (fun x5 => ?_)
            refine T_istore_n (pc := 62) (lv' := [(0, .ref 3), (1, .int x5), (2, .int (0 : Int32)), (3, .int v3), (4, .int x2)]) dX3_takeScene_62 rfl (Nat.le_of_ble_eq_true rfl) rfl ?_
            refine T_aload_n (pc := 63) 0 dX3_takeScene_63 rfl rfl ?_
            refine T_callSv (pc := 64) (rest := []) (Rn_U (pc := 64) (x := ⟨"CueRolls$PlotReader", "step", "()V"⟩) (as := []) (rest := []) (ctX5_step_p σ) rfl rfl mu_X3_X3_X5_step hw686 rfl rfl ⟨Nat.le_of_ble_eq_true rfl, Nat.le_of_ble_eq_true rfl⟩ (Nat.le_of_ble_eq_true rfl) dX3_takeScene_64 rfl) rfl (fun s6 => ?_)
            refine T_iinc (pc := 67) (y := 1) (lv' := [(0, .ref 3), (1, .int x5), (2, .int (0 : Int32)), (3, .int (v3 + (1 : Int32))), (4, .int x2)]) 3 dX3_takeScene_67 (by decide) rfl (Nat.le_of_ble_eq_true rfl) rfl ?_
            refine T_goto (pc := 70) 6 dX3_takeScene_70 (by decide) ?_
            refine T_pick (lv' := [(0, .ref 3), (1, .int x5), (2, .int (0 : Int32)), (3, .int (v3 + (1 : Int32)))]) [0, 1, 2, 3] rfl ?_
            exact hkb s6 x5 (0 : Int32) (v3 + (1 : Int32))
        · refine T_iload_n (pc := 37) 1 dX3_takeScene_37 rfl rfl ?_
          refine T_iload (pc := 38) 4 dX3_takeScene_38 rfl ?_
          refine T_ishr (pc := 40) dX3_takeScene_40 ?_
          refine T_iconst (pc := 41) (v := 1) dX3_takeScene_41 (by decide) ?_
          refine T_iand (pc := 42) dX3_takeScene_42 ?_
          refine T_if_ne (pc := 43) 50 dX3_takeScene_43 (by decide) (fun _ => ?_) (fun _ => ?_)
          · refine T_iconst (pc := 50) (v := 0) dX3_takeScene_50 (by decide) ?_
            refine T_istore_n (pc := 51) (lv' := [(0, .ref 3), (1, .int v1), (2, .int (0 : Int32)), (3, .int v3), (4, .int x2)]) dX3_takeScene_51 rfl (Nat.le_of_ble_eq_true rfl) rfl ?_
            refine T_iload_n (pc := 52) 2 dX3_takeScene_52 rfl rfl ?_
            refine T_if_eq (pc := 53) 67 dX3_takeScene_53 (by decide) (fun _ => ?_) (fun _ => ?_)
            · refine T_iinc (pc := 67) (y := 1) (lv' := [(0, .ref 3), (1, .int v1), (2, .int (0 : Int32)), (3, .int (v3 + (1 : Int32))), (4, .int x2)]) 3 dX3_takeScene_67 (by decide) rfl (Nat.le_of_ble_eq_true rfl) rfl ?_
              refine T_goto (pc := 70) 6 dX3_takeScene_70 (by decide) ?_
              refine T_pick (lv' := [(0, .ref 3), (1, .int v1), (2, .int (0 : Int32)), (3, .int (v3 + (1 : Int32)))]) [0, 1, 2, 3] rfl ?_
              exact hkb σ v1 (0 : Int32) (v3 + (1 : Int32))
            · refine T_iload_n (pc := 56) 1 dX3_takeScene_56 rfl rfl ?_
              refine T_iconst (pc := 57) (v := 1) dX3_takeScene_57 (by decide) ?_
              refine T_iload (pc := 58) 4 dX3_takeScene_58 rfl ?_
              refine T_ishl (pc := 60) dX3_takeScene_60 ?_
              refine T_ior (pc := 61) dX3_takeScene_61 ?_
              refine T_letI (fun x7 => ?_)
              refine T_istore_n (pc := 62) (lv' := [(0, .ref 3), (1, .int x7), (2, .int (0 : Int32)), (3, .int v3), (4, .int x2)]) dX3_takeScene_62 rfl (Nat.le_of_ble_eq_true rfl) rfl ?_
              refine T_aload_n (pc := 63) 0 dX3_takeScene_63 rfl rfl ?_
              refine T_callSv (pc := 64) (rest := []) (Rn_U (pc := 64) (x := ⟨"CueRolls$PlotReader", "step", "()V"⟩) (as := []) (rest := []) (ctX5_step_p σ) rfl rfl mu_X3_X3_X5_step hw686 rfl rfl ⟨Nat.le_of_ble_eq_true rfl, Nat.le_of_ble_eq_true rfl⟩ (Nat.le_of_ble_eq_true rfl) dX3_takeScene_64 rfl) rfl (fun s8 => ?_)
              refine T_iinc (pc := 67) (y := 1) (lv' := [(0, .ref 3), (1, .int x7), (2, .int (0 : Int32)), (3, .int (v3 + (1 : Int32))), (4, .int x2)]) 3 dX3_takeScene_67 (by decide) rfl (Nat.le_of_ble_eq_true rfl) rfl ?_
              refine T_goto (pc := 70) 6 dX3_takeScene_70 (by decide) ?_
              refine T_pick (lv' := [(0, .ref 3), (1, .int x7), (2, .int (0 : Int32)), (3, .int (v3 + (1 : Int32)))]) [0, 1, 2, 3] rfl ?_
              exact hkb s8 x7 (0 : Int32) (v3 + (1 : Int32))
          · refine T_iconst (pc := 46) (v := 1) dX3_takeScene_46 (by decide) ?_
            refine T_goto (pc := 47) 51 dX3_takeScene_47 (by decide) ?_
            refine T_istore_n (pc := 51) (lv' := [(0, .ref 3), (1, .int v1), (2, .int (1 : Int32)), (3, .int v3), (4, .int x2)]) dX3_takeScene_51 rfl (Nat.le_of_ble_eq_true rfl) rfl ?_
            refine T_iload_n (pc := 52) 2 dX3_takeScene_52 rfl rfl ?_
            refine T_if_eq (pc := 53) 67 dX3_takeScene_53 (by decide) (fun _ => ?_) (fun _ => ?_)
            · refine T_iinc (pc := 67) (y := 1) (lv' := [(0, .ref 3), (1, .int v1), (2, .int (1 : Int32)), (3, .int (v3 + (1 : Int32))), (4, .int x2)]) 3 dX3_takeScene_67 (by decide) rfl (Nat.le_of_ble_eq_true rfl) rfl ?_
              refine T_goto (pc := 70) 6 dX3_takeScene_70 (by decide) ?_
              refine T_pick (lv' := [(0, .ref 3), (1, .int v1), (2, .int (1 : Int32)), (3, .int (v3 + (1 : Int32)))]) [0, 1, 2, 3] rfl ?_
              exact hkb σ v1 (1 : Int32) (v3 + (1 : Int32))
            · refine T_iload_n (pc := 56) 1 dX3_takeScene_56 rfl rfl ?_
              refine T_iconst (pc := 57) (v := 1) dX3_takeScene_57 (by decide) ?_
              refine T_iload (pc := 58) 4 dX3_takeScene_58 rfl ?_
              refine T_ishl (pc := 60) dX3_takeScene_60 ?_
              refine T_ior (pc := 61) dX3_takeScene_61 ?_
              refine T_letI (fun x9 => ?_)
              refine T_istore_n (pc := 62) (lv' := [(0, .ref 3), (1, .int x9), (2, .int (1 : Int32)), (3, .int v3), (4, .int x2)]) dX3_takeScene_62 rfl (Nat.le_of_ble_eq_true rfl) rfl ?_
              refine T_aload_n (pc := 63) 0 dX3_takeScene_63 rfl rfl ?_
              refine T_callSv (pc := 64) (rest := []) (Rn_U (pc := 64) (x := ⟨"CueRolls$PlotReader", "step", "()V"⟩) (as := []) (rest := []) (ctX5_step_p σ) rfl rfl mu_X3_X3_X5_step hw686 rfl rfl ⟨Nat.le_of_ble_eq_true rfl, Nat.le_of_ble_eq_true rfl⟩ (Nat.le_of_ble_eq_true rfl) dX3_takeScene_64 rfl) rfl (fun s10 => ?_)
              refine T_iinc (pc := 67) (y := 1) (lv' := [(0, .ref 3), (1, .int x9), (2, .int (1 : Int32)), (3, .int (v3 + (1 : Int32))), (4, .int x2)]) 3 dX3_takeScene_67 (by decide) rfl (Nat.le_of_ble_eq_true rfl) rfl ?_
              refine T_goto (pc := 70) 6 dX3_takeScene_70 (by decide) ?_
              refine T_pick (lv' := [(0, .ref 3), (1, .int x9), (2, .int (1 : Int32)), (3, .int (v3 + (1 : Int32)))]) [0, 1, 2, 3] rfl ?_
              exact hkb s10 x9 (1 : Int32) (v3 + (1 : Int32))
set_option maxRecDepth 100000 in
set_option maxHeartbeats 4000000 in
theorem fX3_takeScene_P6_T (σ : St) {k1 : St → Int32 → Option (Int32 × St)} (hk1 : ∀ (σ' : St) (w1 : Int32), T kX3_takeScene cSi σ' 73 [(0, .ref 3), (1, .int w1)] [] (k1 σ' w1)) (v1 : Int32) (v2 : Int32) (v3 : Int32) : T kX3_takeScene cSi σ 6 [(0, .ref 3), (1, .int v1), (2, .int v2), (3, .int v3)] [] (fX3_takeScene_P6 k1 σ v1 v2 v3) :=
  it_T (S := (fun t : St × Int32 × Int32 × Int32 => t.1)) (lv := fun t : St × Int32 × Int32 × Int32 => [(0, .ref 3), (1, .int t.2.1), (2, .int t.2.2.1), (3, .int t.2.2.2)]) (st := fun _ => []) (fun kb hkb t => fX3_takeScene_L6_T (hk1 := hk1) (hkb := fun σ v1 v2 v3 => hkb (σ, v1, v2, v3)) t.1 t.2.1 t.2.2.1 t.2.2.2) FU (σ, v1, v2, v3)
set_option maxRecDepth 100000 in
set_option maxHeartbeats 4000000 in
theorem ctX3_takeScene (σ : St) : Ct yX3_takeScene kX3_takeScene [.ref 3] σ cSi (fX3_takeScene σ) := by
  refine Ct.of (by decide +kernel) rfl rfl (Nat.le_of_ble_eq_true rfl) ?_
  unfold fX3_takeScene
  show T _ _ _ 0 [(0, .ref 3)] [] _
  refine T_iconst (pc := 0) (v := 0) dX3_takeScene_0 (by decide) ?_
  refine T_istore_n (pc := 1) (lv' := [(0, .ref 3), (1, .int (0 : Int32))]) dX3_takeScene_1 rfl (Nat.le_of_ble_eq_true rfl) rfl ?_
  refine T_iconst (pc := 2) (v := 1) dX3_takeScene_2 (by decide) ?_
  refine T_istore_n (pc := 3) (lv' := [(0, .ref 3), (1, .int (0 : Int32)), (2, .int (1 : Int32))]) dX3_takeScene_3 rfl (Nat.le_of_ble_eq_true rfl) rfl ?_
  refine T_iconst (pc := 4) (v := 0) dX3_takeScene_4 (by decide) ?_
  refine T_istore_n (pc := 5) (lv' := [(0, .ref 3), (1, .int (0 : Int32)), (2, .int (1 : Int32)), (3, .int (0 : Int32))]) dX3_takeScene_5 rfl (Nat.le_of_ble_eq_true rfl) rfl ?_
  refine fX3_takeScene_P6_T (hk1 := fun s11 x12 => ?_) σ (0 : Int32) (1 : Int32) (0 : Int32)
  · refine T_iload_n (pc := 73) 1 dX3_takeScene_73 rfl rfl ?_
    refine T_if_ne (pc := 74) 81 dX3_takeScene_74 (by decide) (fun _ => ?_) (fun _ => ?_)
    · refine T_iload_n (pc := 81) 1 dX3_takeScene_81 rfl rfl ?_
      exact T_ireturn (pc := 82) rfl dX3_takeScene_82 rfl
    · refine T_aload_n (pc := 77) 0 dX3_takeScene_77 rfl rfl ?_
      refine T_callSv (pc := 78) (rest := []) (Rn_U (pc := 78) (x := ⟨"CueRolls$PlotReader", "spoil", "()V"⟩) (as := []) (rest := []) (ctX5_spoil_p s11) rfl rfl mu_X3_X3_X5_spoil hw689 rfl rfl ⟨Nat.le_of_ble_eq_true rfl, Nat.le_of_ble_eq_true rfl⟩ (Nat.le_of_ble_eq_true rfl) dX3_takeScene_78 rfl) rfl (fun s13 => ?_)
      refine T_iload_n (pc := 81) 1 dX3_takeScene_81 rfl rfl ?_
      exact T_ireturn (pc := 82) rfl dX3_takeScene_82 rfl
set_option maxRecDepth 100000 in
set_option maxHeartbeats 4000000 in
theorem ctX5_takes_p (σ : St) (p0 : Int32) : Ct yX5_takes kX5_takes_p [.ref 3, .int p0] σ cSz (fX5_takes_p σ p0) := by
  refine Ct.of (by decide +kernel) rfl rfl (Nat.le_of_ble_eq_true rfl) ?_
  unfold fX5_takes_p
  show T _ _ _ 0 [(0, .ref 3), (1, .int p0)] [] _
  refine T_aload_n (pc := 0) 0 dX5_takes_0 rfl rfl ?_
  refine T_callPi (pc := 1) (rest := []) (Rn_U (pc := 1) (x := ⟨"CueRolls$Reader", "sign", "()I"⟩) (as := []) (rest := []) (ctX5_sign_p σ) rfl rfl mu_X3_Reader_X5_sign hw583 rfl rfl ⟨Nat.le_of_ble_eq_true rfl, Nat.le_of_ble_eq_true rfl⟩ (Nat.le_of_ble_eq_true rfl) dX5_takes_1 rfl) rfl (fun x1 => ?_)
  refine T_iload_n (pc := 4) 1 dX5_takes_4 rfl rfl ?_
  refine T_icmp_eq (pc := 5) 10 dX5_takes_5 (by decide) (fun _ => ?_) (fun _ => ?_)
  · refine T_aload_n (pc := 10) 0 dX5_takes_10 rfl rfl ?_
    refine T_dup_a (pc := 11) dX5_takes_11 ?_
    refine T_getI (pc := 12) fd_3_3 hw240 dX5_takes_12 ?_
    refine T_iconst (pc := 15) (v := 1) dX5_takes_15 (by decide) ?_
    refine T_iadd (pc := 16) dX5_takes_16 ?_
    refine T_putI (pc := 17) fd_3_3 hw240 dX5_takes_17 ?_
    refine T_letS (fun s2 => ?_)
    refine T_iconst (pc := 20) (v := 1) dX5_takes_20 (by decide) ?_
    exact T_zreturn (pc := 21) true rfl dX5_takes_21 rfl rfl
  · refine T_iconst (pc := 8) (v := 0) dX5_takes_8 (by decide) ?_
    exact T_zreturn (pc := 9) false rfl dX5_takes_9 rfl rfl
set_option maxRecDepth 100000 in
set_option maxHeartbeats 4000000 in
theorem fX3_takeAll_L9_T (σ : St) {kb : St → Int32 → Int32 → Option St} (hkb : ∀ (σ' : St) (w1 : Int32) (w2 : Int32), T kX3_takeAll cSv σ' 9 [(0, .ref 3), (1, .int w1), (2, .int w2)] [] (kb σ' w1 w2)) (v1 : Int32) (v2 : Int32) : T kX3_takeAll cSv σ 9 [(0, .ref 3), (1, .int v1), (2, .int v2)] [] (fX3_takeAll_L9 kb σ v1 v2) := by
  unfold fX3_takeAll_L9
  refine T_iload_n (pc := 9) 2 dX3_takeAll_9 rfl rfl ?_
  refine T_bipush (pc := 10) (v := 20) dX3_takeAll_10 (by decide) ?_
  refine T_icmp_ge (pc := 12) 68 dX3_takeAll_12 (by decide) (fun _ => ?_) (fun _ => ?_)
  · exact T_return (pc := 68) rfl dX3_takeAll_68 rfl
  · refine T_iload_n (pc := 15) 1 dX3_takeAll_15 rfl rfl ?_
    refine T_if_eq (pc := 16) 68 dX3_takeAll_16 (by decide) (fun _ => ?_) (fun _ => ?_)
    · exact T_return (pc := 68) rfl dX3_takeAll_68 rfl
    · refine T_aload_n (pc := 19) 0 dX3_takeAll_19 rfl rfl ?_
      refine T_getA (pc := 20) fd_3_5 hw269 dX3_takeAll_20 ?_
      refine T_iload_n (pc := 23) 2 dX3_takeAll_23 rfl rfl ?_
      refine T_aload_n (pc := 24) 0 dX3_takeAll_24 rfl rfl ?_
      refine T_callSi (pc := 25) (rest := [.int v2, .ref 20]) (Rn_V (pc := 25) (as := []) (rest := [.int v2, .ref 20]) (ctX3_takeScene σ) rfl rfl mv_X3_takeScene hw679 rfl ⟨Nat.le_of_ble_eq_true rfl, Nat.le_of_ble_eq_true rfl⟩ (Nat.le_of_ble_eq_true rfl) dX3_takeAll_25 rfl) rfl (fun r2 => ?_)
      refine T_iast (pc := 28) rfl dX3_takeAll_28 ?_
      refine T_letS (fun s3 => ?_)
      refine T_aload_n (pc := 29) 0 dX3_takeAll_29 rfl rfl ?_
      refine T_dup_a (pc := 30) dX3_takeAll_30 ?_
      refine T_getI (pc := 31) fd_3_6 hw270 dX3_takeAll_31 ?_
      refine T_iconst (pc := 34) (v := 1) dX3_takeAll_34 (by decide) ?_
      refine T_iadd (pc := 35) dX3_takeAll_35 ?_
      refine T_putI (pc := 36) fd_3_6 hw270 dX3_takeAll_36 ?_
      refine T_letS (fun s4 => ?_)
      refine T_iload_n (pc := 39) 2 dX3_takeAll_39 rfl rfl ?_
      refine T_iconst (pc := 40) (v := 1) dX3_takeAll_40 (by decide) ?_
      refine T_iadd (pc := 41) dX3_takeAll_41 ?_
      refine T_bipush (pc := 42) (v := 20) dX3_takeAll_42 (by decide) ?_
      refine T_icmp_ge (pc := 44) 60 dX3_takeAll_44 (by decide) (fun _ => ?_) (fun _ => ?_)
      · refine T_iconst (pc := 60) (v := 0) dX3_takeAll_60 (by decide) ?_
        refine T_istore_n (pc := 61) (lv' := [(0, .ref 3), (1, .int (0 : Int32)), (2, .int v2)]) dX3_takeAll_61 rfl (Nat.le_of_ble_eq_true rfl) rfl ?_
        refine T_iinc (pc := 62) (y := 1) (lv' := [(0, .ref 3), (1, .int (0 : Int32)), (2, .int (v2 + (1 : Int32)))]) 2 dX3_takeAll_62 (by decide) rfl (Nat.le_of_ble_eq_true rfl) rfl ?_
        refine T_goto (pc := 65) 9 dX3_takeAll_65 (by decide) ?_
        exact hkb s4 (0 : Int32) (v2 + (1 : Int32))
      · refine T_aload_n (pc := 47) 0 dX3_takeAll_47 rfl rfl ?_
        refine T_bipush (pc := 48) (v := 47) dX3_takeAll_48 (by decide) ?_
        refine T_callSz (pc := 50) (rest := []) (Rn_U (pc := 50) (x := ⟨"CueRolls$PlotReader", "takes", "(I)Z"⟩) (as := [.int (47 : Int32)]) (rest := []) (ctX5_takes_p s4 (47 : Int32)) rfl rfl mu_X3_X3_X5_takes hw692 rfl rfl ⟨Nat.le_of_ble_eq_true rfl, Nat.le_of_ble_eq_true rfl⟩ (Nat.le_of_ble_eq_true rfl) dX3_takeAll_50 rfl) rfl (fun r5 => ?_)
        refine T_if_eq (pc := 53) 60 dX3_takeAll_53 (by decide) (fun _ => ?_) (fun _ => ?_)
        · refine T_iconst (pc := 60) (v := 0) dX3_takeAll_60 (by decide) ?_
          refine T_istore_n (pc := 61) (lv' := [(0, .ref 3), (1, .int (0 : Int32)), (2, .int v2)]) dX3_takeAll_61 rfl (Nat.le_of_ble_eq_true rfl) rfl ?_
          refine T_iinc (pc := 62) (y := 1) (lv' := [(0, .ref 3), (1, .int (0 : Int32)), (2, .int (v2 + (1 : Int32)))]) 2 dX3_takeAll_62 (by decide) rfl (Nat.le_of_ble_eq_true rfl) rfl ?_
          refine T_goto (pc := 65) 9 dX3_takeAll_65 (by decide) ?_
          exact hkb r5.2 (0 : Int32) (v2 + (1 : Int32))
        · refine T_iconst (pc := 56) (v := 1) dX3_takeAll_56 (by decide) ?_
          refine T_goto (pc := 57) 61 dX3_takeAll_57 (by decide) ?_
          refine T_istore_n (pc := 61) (lv' := [(0, .ref 3), (1, .int (1 : Int32)), (2, .int v2)]) dX3_takeAll_61 rfl (Nat.le_of_ble_eq_true rfl) rfl ?_
          refine T_iinc (pc := 62) (y := 1) (lv' := [(0, .ref 3), (1, .int (1 : Int32)), (2, .int (v2 + (1 : Int32)))]) 2 dX3_takeAll_62 (by decide) rfl (Nat.le_of_ble_eq_true rfl) rfl ?_
          refine T_goto (pc := 65) 9 dX3_takeAll_65 (by decide) ?_
          exact hkb r5.2 (1 : Int32) (v2 + (1 : Int32))
set_option maxRecDepth 100000 in
set_option maxHeartbeats 4000000 in
theorem fX3_takeAll_P9_T (σ : St) (v1 : Int32) (v2 : Int32) : T kX3_takeAll cSv σ 9 [(0, .ref 3), (1, .int v1), (2, .int v2)] [] (fX3_takeAll_P9 σ v1 v2) :=
  it_T (S := (fun t : St × Int32 × Int32 => t.1)) (lv := fun t : St × Int32 × Int32 => [(0, .ref 3), (1, .int t.2.1), (2, .int t.2.2)]) (st := fun _ => []) (fun kb hkb t => fX3_takeAll_L9_T (hkb := fun σ v1 v2 => hkb (σ, v1, v2)) t.1 t.2.1 t.2.2) FU (σ, v1, v2)
set_option maxRecDepth 100000 in
set_option maxHeartbeats 4000000 in
theorem ctX3_takeAll (σ : St) : Ct yX3_takeAll kX3_takeAll [.ref 3] σ cSv (fX3_takeAll σ) := by
  refine Ct.of (by decide +kernel) rfl rfl (Nat.le_of_ble_eq_true rfl) ?_
  unfold fX3_takeAll
  show T _ _ _ 0 [(0, .ref 3)] [] _
  refine T_aload_n (pc := 0) 0 dX3_takeAll_0 rfl rfl ?_
  refine T_iconst (pc := 1) (v := 0) dX3_takeAll_1 (by decide) ?_
  refine T_putI (pc := 2) fd_3_6 hw270 dX3_takeAll_2 ?_
  refine T_letS (fun s1 => ?_)
  refine T_iconst (pc := 5) (v := 1) dX3_takeAll_5 (by decide) ?_
  refine T_istore_n (pc := 6) (lv' := [(0, .ref 3), (1, .int (1 : Int32))]) dX3_takeAll_6 rfl (Nat.le_of_ble_eq_true rfl) rfl ?_
  refine T_iconst (pc := 7) (v := 0) dX3_takeAll_7 (by decide) ?_
  refine T_istore_n (pc := 8) (lv' := [(0, .ref 3), (1, .int (1 : Int32)), (2, .int (0 : Int32))]) dX3_takeAll_8 rfl (Nat.le_of_ble_eq_true rfl) rfl ?_
  exact fX3_takeAll_P9_T s1 (1 : Int32) (0 : Int32)
set_option maxRecDepth 100000 in
set_option maxHeartbeats 4000000 in
theorem ctX5_faultOf_p (σ : St) : Ct yX5_faultOf kX5_faultOf_p [.ref 3, .ref 1] σ cSi (fX5_faultOf_p σ) := by
  refine Ct.of (by decide +kernel) rfl rfl (Nat.le_of_ble_eq_true rfl) ?_
  unfold fX5_faultOf_p
  show T _ _ _ 0 [(0, .ref 3), (1, .ref 1)] [] _
  refine T_aload_n (pc := 0) 0 dX5_faultOf_0 rfl rfl ?_
  refine T_aload_n (pc := 1) 1 dX5_faultOf_1 rfl rfl ?_
  refine T_callSv (pc := 2) (rest := []) (Rn_U (pc := 2) (x := ⟨"CueRolls$Reader", "cutUp", "(LCueRolls$Tape;)V"⟩) (as := [.ref 1]) (rest := []) (ctX5_cutUp_p σ) rfl rfl mu_X3_Reader_X5_cutUp hw511 rfl rfl ⟨Nat.le_of_ble_eq_true rfl, Nat.le_of_ble_eq_true rfl⟩ (Nat.le_of_ble_eq_true rfl) dX5_faultOf_2 rfl) rfl (fun s1 => ?_)
  refine T_aload_n (pc := 5) 0 dX5_faultOf_5 rfl rfl ?_
  refine T_aload_n (pc := 6) 0 dX5_faultOf_6 rfl rfl ?_
  refine T_getA (pc := 7) fd_3_0 hw237 dX5_faultOf_7 ?_
  refine T_callSv (pc := 10) (rest := []) (Rn_U (pc := 10) (x := ⟨"CueRolls$Reader", "begin", "([J)V"⟩) (as := [.ref 18]) (rest := []) (ctX5_begin_p_18 s1) rfl rfl mu_X3_Reader_X5_begin hw564 rfl rfl ⟨Nat.le_of_ble_eq_true rfl, Nat.le_of_ble_eq_true rfl⟩ (Nat.le_of_ble_eq_true rfl) dX5_faultOf_10 rfl) rfl (fun s2 => ?_)
  refine T_aload_n (pc := 13) 0 dX5_faultOf_13 rfl rfl ?_
  refine T_callSv (pc := 14) (rest := []) (Rn_A (pc := 14) (x := ⟨"CueRolls$Reader", "takeAll", "()V"⟩) (as := []) (rest := []) (ctX3_takeAll s2) rfl rfl mu_X3_Reader_X3_takeAll hw571 (by decide) rfl ⟨Nat.le_of_ble_eq_true rfl, Nat.le_of_ble_eq_true rfl⟩ (Nat.le_of_ble_eq_true rfl) dX5_faultOf_14 rfl) rfl (fun s3 => ?_)
  refine T_aload_n (pc := 17) 0 dX5_faultOf_17 rfl rfl ?_
  refine T_callPi (pc := 18) (rest := []) (Rn_U (pc := 18) (x := ⟨"CueRolls$Reader", "sign", "()I"⟩) (as := []) (rest := []) (ctX5_sign_p s3) rfl rfl mu_X3_Reader_X5_sign hw583 rfl rfl ⟨Nat.le_of_ble_eq_true rfl, Nat.le_of_ble_eq_true rfl⟩ (Nat.le_of_ble_eq_true rfl) dX5_faultOf_18 rfl) rfl (fun x4 => ?_)
  refine T_sipush (pc := 21) (v := 256) dX5_faultOf_21 (by decide) ?_
  refine T_icmp_eq (pc := 24) 31 dX5_faultOf_24 (by decide) (fun _ => ?_) (fun _ => ?_)
  · refine T_aload_n (pc := 31) 0 dX5_faultOf_31 rfl rfl ?_
    refine T_getI (pc := 32) fd_3_4 hw241 dX5_faultOf_32 ?_
    exact T_ireturn (pc := 35) rfl dX5_faultOf_35 rfl
  · refine T_aload_n (pc := 27) 0 dX5_faultOf_27 rfl rfl ?_
    refine T_callSv (pc := 28) (rest := []) (Rn_U (pc := 28) (x := ⟨"CueRolls$Reader", "spoil", "()V"⟩) (as := []) (rest := []) (ctX5_spoil_p s3) rfl rfl mu_X3_Reader_X5_spoil hw590 rfl rfl ⟨Nat.le_of_ble_eq_true rfl, Nat.le_of_ble_eq_true rfl⟩ (Nat.le_of_ble_eq_true rfl) dX5_faultOf_28 rfl) rfl (fun s5 => ?_)
    refine T_aload_n (pc := 31) 0 dX5_faultOf_31 rfl rfl ?_
    refine T_getI (pc := 32) fd_3_4 hw241 dX5_faultOf_32 ?_
    exact T_ireturn (pc := 35) rfl dX5_faultOf_35 rfl
set_option maxRecDepth 100000 in
set_option maxHeartbeats 4000000 in
theorem ctX6_joins (σ : St) (p0 : Int32) : Ct yX6_joins kX6_joins [.ref 2, .int p0] σ (cPz σ) (fX6_joins p0) := by
  refine Ct.of (by decide +kernel) rfl rfl (Nat.le_of_ble_eq_true rfl) ?_
  unfold fX6_joins
  show T _ _ _ 0 [(0, .ref 2), (1, .int p0)] [] _
  refine T_iload_n (pc := 0) 1 dX6_joins_0 rfl rfl ?_
  refine T_bipush (pc := 1) (v := 97) dX6_joins_1 (by decide) ?_
  refine T_icmp_lt (pc := 3) 16 dX6_joins_3 (by decide) (fun _ => ?_) (fun _ => ?_)
  · refine T_iconst (pc := 16) (v := 0) dX6_joins_16 (by decide) ?_
    exact T_zreturn (pc := 17) false rfl dX6_joins_17 rfl rfl
  · refine T_iload_n (pc := 6) 1 dX6_joins_6 rfl rfl ?_
    refine T_bipush (pc := 7) (v := 122) dX6_joins_7 (by decide) ?_
    refine T_icmp_gt (pc := 9) 16 dX6_joins_9 (by decide) (fun _ => ?_) (fun _ => ?_)
    · refine T_iconst (pc := 16) (v := 0) dX6_joins_16 (by decide) ?_
      exact T_zreturn (pc := 17) false rfl dX6_joins_17 rfl rfl
    · refine T_iconst (pc := 12) (v := 1) dX6_joins_12 (by decide) ?_
      refine T_goto (pc := 13) 17 dX6_joins_13 (by decide) ?_
      exact T_zreturn (pc := 17) true rfl dX6_joins_17 rfl rfl
set_option maxRecDepth 100000 in
set_option maxHeartbeats 4000000 in
theorem ctX6_grown (σ : St) (p0 : Int64) (p1 : Int32) : Ct yX6_grown kX6_grown [.ref 2, .long p0, .int p1] σ (cPl σ) (fX6_grown p0 p1) := by
  refine Ct.of (by decide +kernel) rfl rfl (Nat.le_of_ble_eq_true rfl) ?_
  unfold fX6_grown
  show T _ _ _ 0 [(0, .ref 2), (1, .long p0), (3, .int p1)] [] _
  refine T_lload_n (pc := 0) 1 dX6_grown_0 rfl rfl ?_
  refine T_iload_n (pc := 1) 2 dX6_grown_1 rfl rfl ?_
  refine T_callPl (pc := 2) (rest := []) (Rn_S (pc := 2) (as := [.long p0, .int p1]) (rest := []) (ctX10_with σ p0 p1) ms_X10_with hw559 rfl ⟨Nat.le_of_ble_eq_true rfl, Nat.le_of_ble_eq_true rfl⟩ (Nat.le_of_ble_eq_true rfl) dX6_grown_2 rfl) rfl (fun x1 => ?_)
  exact T_lreturn (pc := 5) rfl dX6_grown_5 rfl
set_option maxRecDepth 100000 in
set_option maxHeartbeats 4000000 in
theorem ctX6_mostJoined (σ : St) : Ct yX6_mostJoined kX6_mostJoined [.ref 2] σ (cPi σ) (fX6_mostJoined) := by
  refine Ct.of (by decide +kernel) rfl rfl (Nat.le_of_ble_eq_true rfl) ?_
  unfold fX6_mostJoined
  show T _ _ _ 0 [(0, .ref 2)] [] _
  refine T_bipush (pc := 0) (v := 8) dX6_mostJoined_0 (by decide) ?_
  exact T_ireturn (pc := 2) rfl dX6_mostJoined_2 rfl
set_option maxRecDepth 100000 in
set_option maxHeartbeats 4000000 in
theorem fX5_cutUp_r_J114_T (σ : St) (v2 : Int32) (v3 : Int32) (v4 : Int32) (v5 : Int32) (v6 : Int32) (t0 : Int32) {kb : St → Int32 → Int32 → Int32 → Option St} (hkb : ∀ (σ' : St) (w2 : Int32) (w3 : Int32) (w4 : Int32), T kX5_cutUp_r cSv σ' 7 [(0, .ref 2), (1, .ref 1), (2, .int w2), (3, .int w3), (4, .int w4)] [] (kb σ' w2 w3 w4)) : T kX5_cutUp_r cSv σ 114 [(0, .ref 2), (1, .ref 1), (2, .int v2), (3, .int v3), (4, .int v4), (5, .int v5), (6, .int v6)] [.int t0] (fX5_cutUp_r_J114 kb σ v2 v3 v4 v5 v6 t0) := by
  unfold fX5_cutUp_r_J114
  refine T_istore (pc := 114) (lv' := [(0, .ref 2), (1, .ref 1), (2, .int v2), (3, .int v3), (4, .int v4), (5, .int v5), (6, .int v6), (7, .int t0)]) dX5_cutUp_114 (Nat.le_of_ble_eq_true rfl) rfl ?_
  refine T_aload_n (pc := 116) 0 dX5_cutUp_116 rfl rfl ?_
  refine T_getA (pc := 117) fd_2_0 hw237 dX5_cutUp_117 ?_
  refine T_iload_n (pc := 120) 2 dX5_cutUp_120 rfl rfl ?_
  refine T_iload (pc := 121) 7 dX5_cutUp_121 rfl ?_
  refine T_if_eq (pc := 123) 132 dX5_cutUp_123 (by decide) (fun _ => ?_) (fun _ => ?_)
  · refine T_iload (pc := 132) 6 dX5_cutUp_132 rfl ?_
    refine T_if_eq (pc := 134) 151 dX5_cutUp_134 (by decide) (fun _ => ?_) (fun _ => ?_)
    · refine T_iload (pc := 151) 5 dX5_cutUp_151 rfl ?_
      refine T_i2l (pc := 153) dX5_cutUp_153 ?_
      refine T_last (pc := 154) rfl dX5_cutUp_154 ?_
      refine T_letS (fun s5 => ?_)
      refine T_aload_n (pc := 155) 0 dX5_cutUp_155 rfl rfl ?_
      refine T_getA (pc := 156) fd_2_1 hw238 dX5_cutUp_156 ?_
      refine T_iload_n (pc := 159) 2 dX5_cutUp_159 rfl rfl ?_
      refine T_iload (pc := 160) 4 dX5_cutUp_160 rfl ?_
      refine T_iast (pc := 162) rfl dX5_cutUp_162 ?_
      refine T_letS (fun s6 => ?_)
      refine T_iinc (pc := 163) (y := 1) (lv' := [(0, .ref 2), (1, .ref 1), (2, .int (v2 + (1 : Int32))), (3, .int v3), (4, .int v4), (5, .int v5), (6, .int v6), (7, .int t0)]) 2 dX5_cutUp_163 (by decide) rfl (Nat.le_of_ble_eq_true rfl) rfl ?_
      refine T_iload (pc := 166) 6 dX5_cutUp_166 rfl ?_
      refine T_if_eq (pc := 168) 177 dX5_cutUp_168 (by decide) (fun _ => ?_) (fun _ => ?_)
      · refine T_iconst (pc := 177) (v := 0) dX5_cutUp_177 (by decide) ?_
        refine T_istore_n (pc := 178) (lv' := [(0, .ref 2), (1, .ref 1), (2, .int (v2 + (1 : Int32))), (3, .int (0 : Int32)), (4, .int v4), (5, .int v5), (6, .int v6), (7, .int t0)]) dX5_cutUp_178 rfl (Nat.le_of_ble_eq_true rfl) rfl ?_
        refine T_iinc (pc := 179) (y := 1) (lv' := [(0, .ref 2), (1, .ref 1), (2, .int (v2 + (1 : Int32))), (3, .int (0 : Int32)), (4, .int (v4 + (1 : Int32))), (5, .int v5), (6, .int v6), (7, .int t0)]) 4 dX5_cutUp_179 (by decide) rfl (Nat.le_of_ble_eq_true rfl) rfl ?_
        refine T_goto (pc := 182) 7 dX5_cutUp_182 (by decide) ?_
        refine T_pick (lv' := [(0, .ref 2), (1, .ref 1), (2, .int (v2 + (1 : Int32))), (3, .int (0 : Int32)), (4, .int (v4 + (1 : Int32)))]) [0, 1, 2, 3, 4] rfl ?_
        exact hkb s6 (v2 + (1 : Int32)) (0 : Int32) (v4 + (1 : Int32))
      · refine T_iload_n (pc := 171) 3 dX5_cutUp_171 rfl rfl ?_
        refine T_iconst (pc := 172) (v := 1) dX5_cutUp_172 (by decide) ?_
        refine T_iadd (pc := 173) dX5_cutUp_173 ?_
        refine T_goto (pc := 174) 178 dX5_cutUp_174 (by decide) ?_
        refine T_letI (fun x7 => ?_)
        refine T_istore_n (pc := 178) (lv' := [(0, .ref 2), (1, .ref 1), (2, .int (v2 + (1 : Int32))), (3, .int x7), (4, .int v4), (5, .int v5), (6, .int v6), (7, .int t0)]) dX5_cutUp_178 rfl (Nat.le_of_ble_eq_true rfl) rfl ?_
        refine T_iinc (pc := 179) (y := 1) (lv' := [(0, .ref 2), (1, .ref 1), (2, .int (v2 + (1 : Int32))), (3, .int x7), (4, .int (v4 + (1 : Int32))), (5, .int v5), (6, .int v6), (7, .int t0)]) 4 dX5_cutUp_179 (by decide) rfl (Nat.le_of_ble_eq_true rfl) rfl ?_
        refine T_goto (pc := 182) 7 dX5_cutUp_182 (by decide) ?_
        refine T_pick (lv' := [(0, .ref 2), (1, .ref 1), (2, .int (v2 + (1 : Int32))), (3, .int x7), (4, .int (v4 + (1 : Int32)))]) [0, 1, 2, 3, 4] rfl ?_
        exact hkb s6 (v2 + (1 : Int32)) x7 (v4 + (1 : Int32))
    · refine T_ldc2 (pc := 137) hw544 dX5_cutUp_137 ?_
      refine T_aload_n (pc := 140) 0 dX5_cutUp_140 rfl rfl ?_
      refine T_lconst (pc := 141) (v := 0) dX5_cutUp_141 (by decide) ?_
      refine T_iload (pc := 142) 5 dX5_cutUp_142 rfl ?_
      refine T_callPl (pc := 144) (rest := [.long (1000 : Int64), .int v2, .ref 12]) (Rn_A (pc := 144) (x := ⟨"CueRolls$Reader", "grown", "(JI)J"⟩) (as := [.long (0 : Int64), .int v5]) (rest := [.long (1000 : Int64), .int v2, .ref 12]) (ctX6_grown σ (0 : Int64) v5) rfl rfl mu_X6_Reader_X6_grown hw545 (by decide) rfl ⟨Nat.le_of_ble_eq_true rfl, Nat.le_of_ble_eq_true rfl⟩ (Nat.le_of_ble_eq_true rfl) dX5_cutUp_144 rfl) rfl (fun x8 => ?_)
      refine T_ladd (pc := 147) dX5_cutUp_147 ?_
      refine T_goto (pc := 148) 154 dX5_cutUp_148 (by decide) ?_
      refine T_last (pc := 154) rfl dX5_cutUp_154 ?_
      refine T_letS (fun s9 => ?_)
      refine T_aload_n (pc := 155) 0 dX5_cutUp_155 rfl rfl ?_
      refine T_getA (pc := 156) fd_2_1 hw238 dX5_cutUp_156 ?_
      refine T_iload_n (pc := 159) 2 dX5_cutUp_159 rfl rfl ?_
      refine T_iload (pc := 160) 4 dX5_cutUp_160 rfl ?_
      refine T_iast (pc := 162) rfl dX5_cutUp_162 ?_
      refine T_letS (fun s10 => ?_)
      refine T_iinc (pc := 163) (y := 1) (lv' := [(0, .ref 2), (1, .ref 1), (2, .int (v2 + (1 : Int32))), (3, .int v3), (4, .int v4), (5, .int v5), (6, .int v6), (7, .int t0)]) 2 dX5_cutUp_163 (by decide) rfl (Nat.le_of_ble_eq_true rfl) rfl ?_
      refine T_iload (pc := 166) 6 dX5_cutUp_166 rfl ?_
      refine T_if_eq (pc := 168) 177 dX5_cutUp_168 (by decide) (fun _ => ?_) (fun _ => ?_)
      · refine T_iconst (pc := 177) (v := 0) dX5_cutUp_177 (by decide) ?_
        refine T_istore_n (pc := 178) (lv' := [(0, .ref 2), (1, .ref 1), (2, .int (v2 + (1 : Int32))), (3, .int (0 : Int32)), (4, .int v4), (5, .int v5), (6, .int v6), (7, .int t0)]) dX5_cutUp_178 rfl (Nat.le_of_ble_eq_true rfl) rfl ?_
        refine T_iinc (pc := 179) (y := 1) (lv' := [(0, .ref 2), (1, .ref 1), (2, .int (v2 + (1 : Int32))), (3, .int (0 : Int32)), (4, .int (v4 + (1 : Int32))), (5, .int v5), (6, .int v6), (7, .int t0)]) 4 dX5_cutUp_179 (by decide) rfl (Nat.le_of_ble_eq_true rfl) rfl ?_
        refine T_goto (pc := 182) 7 dX5_cutUp_182 (by decide) ?_
        refine T_pick (lv' := [(0, .ref 2), (1, .ref 1), (2, .int (v2 + (1 : Int32))), (3, .int (0 : Int32)), (4, .int (v4 + (1 : Int32)))]) [0, 1, 2, 3, 4] rfl ?_
        exact hkb s10 (v2 + (1 : Int32)) (0 : Int32) (v4 + (1 : Int32))
      · refine T_iload_n (pc := 171) 3 dX5_cutUp_171 rfl rfl ?_
        refine T_iconst (pc := 172) (v := 1) dX5_cutUp_172 (by decide) ?_
        refine T_iadd (pc := 173) dX5_cutUp_173 ?_
        refine T_goto (pc := 174) 178 dX5_cutUp_174 (by decide) ?_
        refine T_letI (fun x11 => ?_)
        refine T_istore_n (pc := 178) (lv' := [(0, .ref 2), (1, .ref 1), (2, .int (v2 + (1 : Int32))), (3, .int x11), (4, .int v4), (5, .int v5), (6, .int v6), (7, .int t0)]) dX5_cutUp_178 rfl (Nat.le_of_ble_eq_true rfl) rfl ?_
        refine T_iinc (pc := 179) (y := 1) (lv' := [(0, .ref 2), (1, .ref 1), (2, .int (v2 + (1 : Int32))), (3, .int x11), (4, .int (v4 + (1 : Int32))), (5, .int v5), (6, .int v6), (7, .int t0)]) 4 dX5_cutUp_179 (by decide) rfl (Nat.le_of_ble_eq_true rfl) rfl ?_
        refine T_goto (pc := 182) 7 dX5_cutUp_182 (by decide) ?_
        refine T_pick (lv' := [(0, .ref 2), (1, .ref 1), (2, .int (v2 + (1 : Int32))), (3, .int x11), (4, .int (v4 + (1 : Int32)))]) [0, 1, 2, 3, 4] rfl ?_
        exact hkb s10 (v2 + (1 : Int32)) x11 (v4 + (1 : Int32))
  · refine T_ldc2 (pc := 126) hw562 dX5_cutUp_126 ?_
    refine T_goto (pc := 129) 154 dX5_cutUp_129 (by decide) ?_
    refine T_last (pc := 154) rfl dX5_cutUp_154 ?_
    refine T_letS (fun s12 => ?_)
    refine T_aload_n (pc := 155) 0 dX5_cutUp_155 rfl rfl ?_
    refine T_getA (pc := 156) fd_2_1 hw238 dX5_cutUp_156 ?_
    refine T_iload_n (pc := 159) 2 dX5_cutUp_159 rfl rfl ?_
    refine T_iload (pc := 160) 4 dX5_cutUp_160 rfl ?_
    refine T_iast (pc := 162) rfl dX5_cutUp_162 ?_
    refine T_letS (fun s13 => ?_)
    refine T_iinc (pc := 163) (y := 1) (lv' := [(0, .ref 2), (1, .ref 1), (2, .int (v2 + (1 : Int32))), (3, .int v3), (4, .int v4), (5, .int v5), (6, .int v6), (7, .int t0)]) 2 dX5_cutUp_163 (by decide) rfl (Nat.le_of_ble_eq_true rfl) rfl ?_
    refine T_iload (pc := 166) 6 dX5_cutUp_166 rfl ?_
    refine T_if_eq (pc := 168) 177 dX5_cutUp_168 (by decide) (fun _ => ?_) (fun _ => ?_)
    · refine T_iconst (pc := 177) (v := 0) dX5_cutUp_177 (by decide) ?_
      refine T_istore_n (pc := 178) (lv' := [(0, .ref 2), (1, .ref 1), (2, .int (v2 + (1 : Int32))), (3, .int (0 : Int32)), (4, .int v4), (5, .int v5), (6, .int v6), (7, .int t0)]) dX5_cutUp_178 rfl (Nat.le_of_ble_eq_true rfl) rfl ?_
      refine T_iinc (pc := 179) (y := 1) (lv' := [(0, .ref 2), (1, .ref 1), (2, .int (v2 + (1 : Int32))), (3, .int (0 : Int32)), (4, .int (v4 + (1 : Int32))), (5, .int v5), (6, .int v6), (7, .int t0)]) 4 dX5_cutUp_179 (by decide) rfl (Nat.le_of_ble_eq_true rfl) rfl ?_
      refine T_goto (pc := 182) 7 dX5_cutUp_182 (by decide) ?_
      refine T_pick (lv' := [(0, .ref 2), (1, .ref 1), (2, .int (v2 + (1 : Int32))), (3, .int (0 : Int32)), (4, .int (v4 + (1 : Int32)))]) [0, 1, 2, 3, 4] rfl ?_
      exact hkb s13 (v2 + (1 : Int32)) (0 : Int32) (v4 + (1 : Int32))
    · refine T_iload_n (pc := 171) 3 dX5_cutUp_171 rfl rfl ?_
      refine T_iconst (pc := 172) (v := 1) dX5_cutUp_172 (by decide) ?_
      refine T_iadd (pc := 173) dX5_cutUp_173 ?_
      refine T_goto (pc := 174) 178 dX5_cutUp_174 (by decide) ?_
      refine T_letI (fun x14 => ?_)
      refine T_istore_n (pc := 178) (lv' := [(0, .ref 2), (1, .ref 1), (2, .int (v2 + (1 : Int32))), (3, .int x14), (4, .int v4), (5, .int v5), (6, .int v6), (7, .int t0)]) dX5_cutUp_178 rfl (Nat.le_of_ble_eq_true rfl) rfl ?_
      refine T_iinc (pc := 179) (y := 1) (lv' := [(0, .ref 2), (1, .ref 1), (2, .int (v2 + (1 : Int32))), (3, .int x14), (4, .int (v4 + (1 : Int32))), (5, .int v5), (6, .int v6), (7, .int t0)]) 4 dX5_cutUp_179 (by decide) rfl (Nat.le_of_ble_eq_true rfl) rfl ?_
      refine T_goto (pc := 182) 7 dX5_cutUp_182 (by decide) ?_
      refine T_pick (lv' := [(0, .ref 2), (1, .ref 1), (2, .int (v2 + (1 : Int32))), (3, .int x14), (4, .int (v4 + (1 : Int32)))]) [0, 1, 2, 3, 4] rfl ?_
      exact hkb s13 (v2 + (1 : Int32)) x14 (v4 + (1 : Int32))
set_option maxRecDepth 100000 in
set_option maxHeartbeats 4000000 in
theorem fX5_cutUp_r_J93_T (σ : St) (v2 : Int32) (v3 : Int32) (v4 : Int32) (v5 : Int32) (v6 : Int32) {kb : St → Int32 → Int32 → Int32 → Option St} (hkb : ∀ (σ' : St) (w2 : Int32) (w3 : Int32) (w4 : Int32), T kX5_cutUp_r cSv σ' 7 [(0, .ref 2), (1, .ref 1), (2, .int w2), (3, .int w3), (4, .int w4)] [] (kb σ' w2 w3 w4)) : T kX5_cutUp_r cSv σ 93 [(0, .ref 2), (1, .ref 1), (2, .int v2), (3, .int v3), (4, .int v4), (5, .int v5), (6, .int v6)] [] (fX5_cutUp_r_J93 kb σ v2 v3 v4 v5 v6) := by
  unfold fX5_cutUp_r_J93
  refine T_iload (pc := 93) 5 dX5_cutUp_93 rfl ?_
  refine T_bipush (pc := 95) (v := 32) dX5_cutUp_95 (by decide) ?_
  refine T_icmp_eq (pc := 97) 166 dX5_cutUp_97 (by decide) (fun _ => ?_) (fun _ => ?_)
  · refine T_iload (pc := 166) 6 dX5_cutUp_166 rfl ?_
    refine T_if_eq (pc := 168) 177 dX5_cutUp_168 (by decide) (fun _ => ?_) (fun _ => ?_)
    · refine T_iconst (pc := 177) (v := 0) dX5_cutUp_177 (by decide) ?_
      refine T_istore_n (pc := 178) (lv' := [(0, .ref 2), (1, .ref 1), (2, .int v2), (3, .int (0 : Int32)), (4, .int v4), (5, .int v5), (6, .int v6)]) dX5_cutUp_178 rfl (Nat.le_of_ble_eq_true rfl) rfl ?_
      refine T_iinc (pc := 179) (y := 1) (lv' := [(0, .ref 2), (1, .ref 1), (2, .int v2), (3, .int (0 : Int32)), (4, .int (v4 + (1 : Int32))), (5, .int v5), (6, .int v6)]) 4 dX5_cutUp_179 (by decide) rfl (Nat.le_of_ble_eq_true rfl) rfl ?_
      refine T_goto (pc := 182) 7 dX5_cutUp_182 (by decide) ?_
      refine T_pick (lv' := [(0, .ref 2), (1, .ref 1), (2, .int v2), (3, .int (0 : Int32)), (4, .int (v4 + (1 : Int32)))]) [0, 1, 2, 3, 4] rfl ?_
      exact hkb σ v2 (0 : Int32) (v4 + (1 : Int32))
    · refine T_iload_n (pc := 171) 3 dX5_cutUp_171 rfl rfl ?_
      refine T_iconst (pc := 172) (v := 1) dX5_cutUp_172 (by decide) ?_
      refine T_iadd (pc := 173) dX5_cutUp_173 ?_
      refine T_goto (pc := 174) 178 dX5_cutUp_174 (by decide) ?_
      refine T_letI (fun x4 => ?_)
      refine T_istore_n (pc := 178) (lv' := [(0, .ref 2), (1, .ref 1), (2, .int v2), (3, .int x4), (4, .int v4), (5, .int v5), (6, .int v6)]) dX5_cutUp_178 rfl (Nat.le_of_ble_eq_true rfl) rfl ?_
      refine T_iinc (pc := 179) (y := 1) (lv' := [(0, .ref 2), (1, .ref 1), (2, .int v2), (3, .int x4), (4, .int (v4 + (1 : Int32))), (5, .int v5), (6, .int v6)]) 4 dX5_cutUp_179 (by decide) rfl (Nat.le_of_ble_eq_true rfl) rfl ?_
      refine T_goto (pc := 182) 7 dX5_cutUp_182 (by decide) ?_
      refine T_pick (lv' := [(0, .ref 2), (1, .ref 1), (2, .int v2), (3, .int x4), (4, .int (v4 + (1 : Int32)))]) [0, 1, 2, 3, 4] rfl ?_
      exact hkb σ v2 x4 (v4 + (1 : Int32))
  · refine T_iload (pc := 100) 6 dX5_cutUp_100 rfl ?_
    refine T_if_eq (pc := 102) 113 dX5_cutUp_102 (by decide) (fun _ => ?_) (fun _ => ?_)
    · refine T_iconst (pc := 113) (v := 0) dX5_cutUp_113 (by decide) ?_
      exact fX5_cutUp_r_J114_T (hkb := hkb) σ v2 v3 v4 v5 v6 (0 : Int32)
    · refine T_iload_n (pc := 105) 3 dX5_cutUp_105 rfl rfl ?_
      refine T_if_le (pc := 106) 113 dX5_cutUp_106 (by decide) (fun _ => ?_) (fun _ => ?_)
      · refine T_iconst (pc := 113) (v := 0) dX5_cutUp_113 (by decide) ?_
        exact fX5_cutUp_r_J114_T (hkb := hkb) σ v2 v3 v4 v5 v6 (0 : Int32)
      · refine T_iconst (pc := 109) (v := 1) dX5_cutUp_109 (by decide) ?_
        refine T_goto (pc := 110) 114 dX5_cutUp_110 (by decide) ?_
        exact fX5_cutUp_r_J114_T (hkb := hkb) σ v2 v3 v4 v5 v6 (1 : Int32)
set_option maxRecDepth 100000 in
set_option maxHeartbeats 4000000 in
theorem fX5_cutUp_r_L7_T (σ : St) {k1 : St → Int32 → Option St} {kb : St → Int32 → Int32 → Int32 → Option St} (hk1 : ∀ (σ' : St) (w2 : Int32), T kX5_cutUp_r cSv σ' 185 [(0, .ref 2), (1, .ref 1), (2, .int w2)] [] (k1 σ' w2)) (hkb : ∀ (σ' : St) (w2 : Int32) (w3 : Int32) (w4 : Int32), T kX5_cutUp_r cSv σ' 7 [(0, .ref 2), (1, .ref 1), (2, .int w2), (3, .int w3), (4, .int w4)] [] (kb σ' w2 w3 w4)) (v2 : Int32) (v3 : Int32) (v4 : Int32) : T kX5_cutUp_r cSv σ 7 [(0, .ref 2), (1, .ref 1), (2, .int v2), (3, .int v3), (4, .int v4)] [] (fX5_cutUp_r_L7 k1 kb σ v2 v3 v4) := by
  unfold fX5_cutUp_r_L7
  refine T_iload (pc := 7) 4 dX5_cutUp_7 rfl ?_
  refine T_aload_n (pc := 9) 1 dX5_cutUp_9 rfl rfl ?_
  refine T_callPi (pc := 10) (rest := [.int v4]) (Rn_V (pc := 10) (as := []) (rest := [.int v4]) (ctX9_size σ) rfl rfl mv_X9_size hw515 rfl ⟨Nat.le_of_ble_eq_true rfl, Nat.le_of_ble_eq_true rfl⟩ (Nat.le_of_ble_eq_true rfl) dX5_cutUp_10 rfl) rfl (fun x1 => ?_)
  refine T_icmp_ge (pc := 13) 185 dX5_cutUp_13 (by decide) (fun _ => ?_) (fun _ => ?_)
  · refine T_pick (lv' := [(0, .ref 2), (1, .ref 1), (2, .int v2)]) [0, 1, 2] rfl ?_
    exact hk1 σ v2
  · refine T_iload_n (pc := 16) 2 dX5_cutUp_16 rfl rfl ?_
    refine T_sipush (pc := 17) (v := 200) dX5_cutUp_17 (by decide) ?_
    refine T_icmp_ge (pc := 20) 185 dX5_cutUp_20 (by decide) (fun _ => ?_) (fun _ => ?_)
    · refine T_pick (lv' := [(0, .ref 2), (1, .ref 1), (2, .int v2)]) [0, 1, 2] rfl ?_
      exact hk1 σ v2
    · refine T_aload_n (pc := 23) 1 dX5_cutUp_23 rfl rfl ?_
      refine T_iload (pc := 24) 4 dX5_cutUp_24 rfl ?_
      refine T_callPi (pc := 26) (rest := []) (Rn_V (pc := 26) (as := [.int v4]) (rest := []) (ctX9_at σ v4) rfl rfl mv_X9_at hw516 rfl ⟨Nat.le_of_ble_eq_true rfl, Nat.le_of_ble_eq_true rfl⟩ (Nat.le_of_ble_eq_true rfl) dX5_cutUp_26 rfl) rfl (fun x2 => ?_)
      refine T_istore (pc := 29) (lv' := [(0, .ref 2), (1, .ref 1), (2, .int v2), (3, .int v3), (4, .int v4), (5, .int x2)]) dX5_cutUp_29 (Nat.le_of_ble_eq_true rfl) rfl ?_
      refine T_aload_n (pc := 31) 0 dX5_cutUp_31 rfl rfl ?_
      refine T_iload (pc := 32) 5 dX5_cutUp_32 rfl ?_
      refine T_callPz (pc := 34) (rest := []) (Rn_A (pc := 34) (x := ⟨"CueRolls$Reader", "joins", "(I)Z"⟩) (as := [.int x2]) (rest := []) (ctX6_joins σ x2) rfl rfl mu_X6_Reader_X6_joins hw520 (by decide) rfl ⟨Nat.le_of_ble_eq_true rfl, Nat.le_of_ble_eq_true rfl⟩ (Nat.le_of_ble_eq_true rfl) dX5_cutUp_34 rfl) rfl (fun x3 => ?_)
      refine T_istore (pc := 37) (lv' := [(0, .ref 2), (1, .ref 1), (2, .int v2), (3, .int v3), (4, .int v4), (5, .int x2), (6, .int (bi x3))]) dX5_cutUp_37 (Nat.le_of_ble_eq_true rfl) rfl ?_
      refine T_iload (pc := 39) 6 dX5_cutUp_39 rfl ?_
      refine T_if_eq (pc := 41) 93 dX5_cutUp_41 (by decide) (fun _ => ?_) (fun _ => ?_)
      · exact fX5_cutUp_r_J93_T (hkb := hkb) σ v2 v3 v4 x2 (bi x3)
      · refine T_iload_n (pc := 44) 3 dX5_cutUp_44 rfl rfl ?_
        refine T_if_le (pc := 45) 93 dX5_cutUp_45 (by decide) (fun _ => ?_) (fun _ => ?_)
        · exact fX5_cutUp_r_J93_T (hkb := hkb) σ v2 v3 v4 x2 (bi x3)
        · refine T_iload_n (pc := 48) 3 dX5_cutUp_48 rfl rfl ?_
          refine T_aload_n (pc := 49) 0 dX5_cutUp_49 rfl rfl ?_
          refine T_callPi (pc := 50) (rest := [.int v3]) (Rn_A (pc := 50) (x := ⟨"CueRolls$Reader", "mostJoined", "()I"⟩) (as := []) (rest := [.int v3]) (ctX6_mostJoined σ) rfl rfl mu_X6_Reader_X6_mostJoined hw532 (by decide) rfl ⟨Nat.le_of_ble_eq_true rfl, Nat.le_of_ble_eq_true rfl⟩ (Nat.le_of_ble_eq_true rfl) dX5_cutUp_50 rfl) rfl (fun x15 => ?_)
          refine T_icmp_ge (pc := 53) 93 dX5_cutUp_53 (by decide) (fun _ => ?_) (fun _ => ?_)
          · exact fX5_cutUp_r_J93_T (hkb := hkb) σ v2 v3 v4 x2 (bi x3)
          · refine T_iload_n (pc := 56) 2 dX5_cutUp_56 rfl rfl ?_
            refine T_if_le (pc := 57) 93 dX5_cutUp_57 (by decide) (fun _ => ?_) (fun _ => ?_)
            · exact fX5_cutUp_r_J93_T (hkb := hkb) σ v2 v3 v4 x2 (bi x3)
            · refine T_aload_n (pc := 60) 0 dX5_cutUp_60 rfl rfl ?_
              refine T_getA (pc := 61) fd_2_0 hw237 dX5_cutUp_61 ?_
              refine T_iload_n (pc := 64) 2 dX5_cutUp_64 rfl rfl ?_
              refine T_iconst (pc := 65) (v := 1) dX5_cutUp_65 (by decide) ?_
              refine T_isub (pc := 66) dX5_cutUp_66 ?_
              refine T_ldc2 (pc := 67) hw544 dX5_cutUp_67 ?_
              refine T_aload_n (pc := 70) 0 dX5_cutUp_70 rfl rfl ?_
              refine T_aload_n (pc := 71) 0 dX5_cutUp_71 rfl rfl ?_
              refine T_getA (pc := 72) fd_2_0 hw237 dX5_cutUp_72 ?_
              refine T_iload_n (pc := 75) 2 dX5_cutUp_75 rfl rfl ?_
              refine T_iconst (pc := 76) (v := 1) dX5_cutUp_76 (by decide) ?_
              refine T_isub (pc := 77) dX5_cutUp_77 ?_
              refine T_lald (pc := 78) rfl dX5_cutUp_78 (fun x16 => ?_)
              refine T_ldc2 (pc := 79) hw544 dX5_cutUp_79 ?_
              refine T_lsub (pc := 82) dX5_cutUp_82 ?_
              refine T_iload (pc := 83) 5 dX5_cutUp_83 rfl ?_
              refine T_callPl (pc := 85) (rest := [.long (1000 : Int64), .int (v2 - (1 : Int32)), .ref 12]) (Rn_A (pc := 85) (x := ⟨"CueRolls$Reader", "grown", "(JI)J"⟩) (as := [.long (x16 - (1000 : Int64)), .int x2]) (rest := [.long (1000 : Int64), .int (v2 - (1 : Int32)), .ref 12]) (ctX6_grown σ (x16 - (1000 : Int64)) x2) rfl rfl mu_X6_Reader_X6_grown hw545 (by decide) rfl ⟨Nat.le_of_ble_eq_true rfl, Nat.le_of_ble_eq_true rfl⟩ (Nat.le_of_ble_eq_true rfl) dX5_cutUp_85 rfl) rfl (fun x17 => ?_)
              refine T_ladd (pc := 88) dX5_cutUp_88 ?_
              refine T_last (pc := 89) rfl dX5_cutUp_89 ?_
              refine T_letS (fun s18 => ?_)
              refine T_goto (pc := 90) 166 dX5_cutUp_90 (by decide) ?_
              refine T_iload (pc := 166) 6 dX5_cutUp_166 rfl ?_
              refine T_if_eq (pc := 168) 177 dX5_cutUp_168 (by decide) (fun _ => ?_) (fun _ => ?_)
              · refine T_iconst (pc := 177) (v := 0) dX5_cutUp_177 (by decide) ?_
                refine T_istore_n (pc := 178) (lv' := [(0, .ref 2), (1, .ref 1), (2, .int v2), (3, .int (0 : Int32)), (4, .int v4), (5, .int x2), (6, .int (bi x3))]) dX5_cutUp_178 rfl (Nat.le_of_ble_eq_true rfl) rfl ?_
                refine T_iinc (pc := 179) (y := 1) (lv' := [(0, .ref 2), (1, .ref 1), (2, .int v2), (3, .int (0 : Int32)), (4, .int (v4 + (1 : Int32))), (5, .int x2), (6, .int (bi x3))]) 4 dX5_cutUp_179 (by decide) rfl (Nat.le_of_ble_eq_true rfl) rfl ?_
                refine T_goto (pc := 182) 7 dX5_cutUp_182 (by decide) ?_
                refine T_pick (lv' := [(0, .ref 2), (1, .ref 1), (2, .int v2), (3, .int (0 : Int32)), (4, .int (v4 + (1 : Int32)))]) [0, 1, 2, 3, 4] rfl ?_
                exact hkb s18 v2 (0 : Int32) (v4 + (1 : Int32))
              · refine T_iload_n (pc := 171) 3 dX5_cutUp_171 rfl rfl ?_
                refine T_iconst (pc := 172) (v := 1) dX5_cutUp_172 (by decide) ?_
                refine T_iadd (pc := 173) dX5_cutUp_173 ?_
                refine T_goto (pc := 174) 178 dX5_cutUp_174 (by decide) ?_
                refine T_letI (fun x19 => ?_)
                refine T_istore_n (pc := 178) (lv' := [(0, .ref 2), (1, .ref 1), (2, .int v2), (3, .int x19), (4, .int v4), (5, .int x2), (6, .int (bi x3))]) dX5_cutUp_178 rfl (Nat.le_of_ble_eq_true rfl) rfl ?_
                refine T_iinc (pc := 179) (y := 1) (lv' := [(0, .ref 2), (1, .ref 1), (2, .int v2), (3, .int x19), (4, .int (v4 + (1 : Int32))), (5, .int x2), (6, .int (bi x3))]) 4 dX5_cutUp_179 (by decide) rfl (Nat.le_of_ble_eq_true rfl) rfl ?_
                refine T_goto (pc := 182) 7 dX5_cutUp_182 (by decide) ?_
                refine T_pick (lv' := [(0, .ref 2), (1, .ref 1), (2, .int v2), (3, .int x19), (4, .int (v4 + (1 : Int32)))]) [0, 1, 2, 3, 4] rfl ?_
                exact hkb s18 v2 x19 (v4 + (1 : Int32))
set_option maxRecDepth 100000 in
set_option maxHeartbeats 4000000 in
theorem fX5_cutUp_r_P7_T (σ : St) {k1 : St → Int32 → Option St} (hk1 : ∀ (σ' : St) (w2 : Int32), T kX5_cutUp_r cSv σ' 185 [(0, .ref 2), (1, .ref 1), (2, .int w2)] [] (k1 σ' w2)) (v2 : Int32) (v3 : Int32) (v4 : Int32) : T kX5_cutUp_r cSv σ 7 [(0, .ref 2), (1, .ref 1), (2, .int v2), (3, .int v3), (4, .int v4)] [] (fX5_cutUp_r_P7 k1 σ v2 v3 v4) :=
  it_T (S := (fun t : St × Int32 × Int32 × Int32 => t.1)) (lv := fun t : St × Int32 × Int32 × Int32 => [(0, .ref 2), (1, .ref 1), (2, .int t.2.1), (3, .int t.2.2.1), (4, .int t.2.2.2)]) (st := fun _ => []) (fun kb hkb t => fX5_cutUp_r_L7_T (hk1 := hk1) (hkb := fun σ v2 v3 v4 => hkb (σ, v2, v3, v4)) t.1 t.2.1 t.2.2.1 t.2.2.2) FU (σ, v2, v3, v4)
set_option maxRecDepth 100000 in
set_option maxHeartbeats 4000000 in
theorem ctX5_cutUp_r (σ : St) : Ct yX5_cutUp kX5_cutUp_r [.ref 2, .ref 1] σ cSv (fX5_cutUp_r σ) := by
  refine Ct.of (by decide +kernel) rfl rfl (Nat.le_of_ble_eq_true rfl) ?_
  unfold fX5_cutUp_r
  show T _ _ _ 0 [(0, .ref 2), (1, .ref 1)] [] _
  refine T_iconst (pc := 0) (v := 0) dX5_cutUp_0 (by decide) ?_
  refine T_istore_n (pc := 1) (lv' := [(0, .ref 2), (1, .ref 1), (2, .int (0 : Int32))]) dX5_cutUp_1 rfl (Nat.le_of_ble_eq_true rfl) rfl ?_
  refine T_iconst (pc := 2) (v := 0) dX5_cutUp_2 (by decide) ?_
  refine T_istore_n (pc := 3) (lv' := [(0, .ref 2), (1, .ref 1), (2, .int (0 : Int32)), (3, .int (0 : Int32))]) dX5_cutUp_3 rfl (Nat.le_of_ble_eq_true rfl) rfl ?_
  refine T_iconst (pc := 4) (v := 0) dX5_cutUp_4 (by decide) ?_
  refine T_istore (pc := 5) (lv' := [(0, .ref 2), (1, .ref 1), (2, .int (0 : Int32)), (3, .int (0 : Int32)), (4, .int (0 : Int32))]) dX5_cutUp_5 (Nat.le_of_ble_eq_true rfl) rfl ?_
  refine fX5_cutUp_r_P7_T (hk1 := fun s20 x21 => ?_) σ (0 : Int32) (0 : Int32) (0 : Int32)
  · refine T_aload_n (pc := 185) 0 dX5_cutUp_185 rfl rfl ?_
    refine T_getA (pc := 186) fd_2_0 hw237 dX5_cutUp_186 ?_
    refine T_iload_n (pc := 189) 2 dX5_cutUp_189 rfl rfl ?_
    refine T_ldc2 (pc := 190) hw563 dX5_cutUp_190 ?_
    refine T_last (pc := 193) rfl dX5_cutUp_193 ?_
    refine T_letS (fun s22 => ?_)
    refine T_aload_n (pc := 194) 0 dX5_cutUp_194 rfl rfl ?_
    refine T_getA (pc := 195) fd_2_1 hw238 dX5_cutUp_195 ?_
    refine T_iload_n (pc := 198) 2 dX5_cutUp_198 rfl rfl ?_
    refine T_aload_n (pc := 199) 1 dX5_cutUp_199 rfl rfl ?_
    refine T_callPi (pc := 200) (rest := [.int x21, .ref 13]) (Rn_V (pc := 200) (as := []) (rest := [.int x21, .ref 13]) (ctX9_size s22) rfl rfl mv_X9_size hw515 rfl ⟨Nat.le_of_ble_eq_true rfl, Nat.le_of_ble_eq_true rfl⟩ (Nat.le_of_ble_eq_true rfl) dX5_cutUp_200 rfl) rfl (fun x23 => ?_)
    refine T_iast (pc := 203) rfl dX5_cutUp_203 ?_
    refine T_letS (fun s24 => ?_)
    exact T_return (pc := 204) rfl dX5_cutUp_204 rfl
set_option maxRecDepth 100000 in
set_option maxHeartbeats 4000000 in
theorem ctX5_begin_r_12 (σ : St) : Ct yX5_begin kX5_begin_r_12 [.ref 2, .ref 12] σ cSv (fX5_begin_r_12 σ) := by
  refine Ct.of (by decide +kernel) rfl rfl (Nat.le_of_ble_eq_true rfl) ?_
  unfold fX5_begin_r_12
  show T _ _ _ 0 [(0, .ref 2), (1, .ref 12)] [] _
  refine T_aload_n (pc := 0) 0 dX5_begin_0 rfl rfl ?_
  refine T_aload_n (pc := 1) 1 dX5_begin_1 rfl rfl ?_
  refine T_putR (pc := 2) fd_2_2 hw239 dX5_begin_2 rfl ?_
  refine T_letS (fun s1 => ?_)
  refine T_aload_n (pc := 5) 0 dX5_begin_5 rfl rfl ?_
  refine T_iconst (pc := 6) (v := 0) dX5_begin_6 (by decide) ?_
  refine T_putI (pc := 7) fd_2_3 hw240 dX5_begin_7 ?_
  refine T_letS (fun s2 => ?_)
  refine T_aload_n (pc := 10) 0 dX5_begin_10 rfl rfl ?_
  refine T_iconst (pc := 11) (v := -1) dX5_begin_11 (by decide) ?_
  refine T_putI (pc := 12) fd_2_4 hw241 dX5_begin_12 ?_
  refine T_letS (fun s3 => ?_)
  exact T_return (pc := 15) rfl dX5_begin_15 rfl
set_option maxRecDepth 100000 in
set_option maxHeartbeats 4000000 in
theorem ctX5_sign_r (σ : St) : Ct yX5_sign kX5_sign_r [.ref 2] σ (cPi σ) (fX5_sign_r σ) := by
  refine Ct.of (by decide +kernel) rfl rfl (Nat.le_of_ble_eq_true rfl) ?_
  unfold fX5_sign_r
  show T _ _ _ 0 [(0, .ref 2)] [] _
  refine T_aload_n (pc := 0) 0 dX5_sign_0 rfl rfl ?_
  refine T_getI (pc := 1) fd_2_4 hw241 dX5_sign_1 ?_
  refine T_iconst (pc := 4) (v := -1) dX5_sign_4 (by decide) ?_
  refine T_icmp_ne (pc := 5) 34 dX5_sign_5 (by decide) (fun _ => ?_) (fun _ => ?_)
  · refine T_sipush (pc := 34) (v := 257) dX5_sign_34 (by decide) ?_
    exact T_ireturn (pc := 37) rfl dX5_sign_37 rfl
  · refine T_aload_n (pc := 8) 0 dX5_sign_8 rfl rfl ?_
    refine T_getR (pc := 9) fd_2_2 hw239 dX5_sign_9 ?_
    refine T_ifnull_r (pc := 12) dX5_sign_12 ?_
    refine T_aload_n (pc := 15) 0 dX5_sign_15 rfl rfl ?_
    refine T_getI (pc := 16) fd_2_3 hw240 dX5_sign_16 ?_
    refine T_if_lt (pc := 19) 34 dX5_sign_19 (by decide) (fun _ => ?_) (fun _ => ?_)
    · refine T_sipush (pc := 34) (v := 257) dX5_sign_34 (by decide) ?_
      exact T_ireturn (pc := 37) rfl dX5_sign_37 rfl
    · refine T_aload_n (pc := 22) 0 dX5_sign_22 rfl rfl ?_
      refine T_getI (pc := 23) fd_2_3 hw240 dX5_sign_23 ?_
      refine T_aload_n (pc := 26) 0 dX5_sign_26 rfl rfl ?_
      refine T_getR (pc := 27) fd_2_2 hw239 dX5_sign_27 ?_
      refine T_alenX (pc := 30) dX5_sign_30 ?_
      refine T_icmp_lt (pc := 31) 38 dX5_sign_31 (by decide) (fun _ => ?_) (fun _ => ?_)
      · refine T_aload_n (pc := 38) 0 dX5_sign_38 rfl rfl ?_
        refine T_getR (pc := 39) fd_2_2 hw239 dX5_sign_39 ?_
        refine T_aload_n (pc := 42) 0 dX5_sign_42 rfl rfl ?_
        refine T_getI (pc := 43) fd_2_3 hw240 dX5_sign_43 ?_
        refine T_laldX (pc := 46) dX5_sign_46 (fun x1 => ?_)
        refine T_ldc2 (pc := 47) hw544 dX5_sign_47 ?_
        refine T_lcmp (pc := 50) dX5_sign_50 ?_
        refine T_if_lt (pc := 51) 60 dX5_sign_51 (by decide) (fun _ => ?_) (fun _ => ?_)
        · refine T_aload_n (pc := 60) 0 dX5_sign_60 rfl rfl ?_
          refine T_getR (pc := 61) fd_2_2 hw239 dX5_sign_61 ?_
          refine T_aload_n (pc := 64) 0 dX5_sign_64 rfl rfl ?_
          refine T_getI (pc := 65) fd_2_3 hw240 dX5_sign_65 ?_
          refine T_laldX (pc := 68) dX5_sign_68 (fun x2 => ?_)
          refine T_l2i (pc := 69) dX5_sign_69 ?_
          exact T_ireturn (pc := 70) rfl dX5_sign_70 rfl
        · refine T_sipush (pc := 54) (v := 1000) dX5_sign_54 (by decide) ?_
          refine T_goto (pc := 57) 70 dX5_sign_57 (by decide) ?_
          exact T_ireturn (pc := 70) rfl dX5_sign_70 rfl
      · refine T_sipush (pc := 34) (v := 257) dX5_sign_34 (by decide) ?_
        exact T_ireturn (pc := 37) rfl dX5_sign_37 rfl
set_option maxRecDepth 100000 in
set_option maxHeartbeats 4000000 in
theorem ctX5_takes_r (σ : St) (p0 : Int32) : Ct yX5_takes kX5_takes_r [.ref 2, .int p0] σ cSz (fX5_takes_r σ p0) := by
  refine Ct.of (by decide +kernel) rfl rfl (Nat.le_of_ble_eq_true rfl) ?_
  unfold fX5_takes_r
  show T _ _ _ 0 [(0, .ref 2), (1, .int p0)] [] _
  refine T_aload_n (pc := 0) 0 dX5_takes_0 rfl rfl ?_
  refine T_callPi (pc := 1) (rest := []) (Rn_U (pc := 1) (x := ⟨"CueRolls$Reader", "sign", "()I"⟩) (as := []) (rest := []) (ctX5_sign_r σ) rfl rfl mu_X6_Reader_X5_sign hw583 rfl rfl ⟨Nat.le_of_ble_eq_true rfl, Nat.le_of_ble_eq_true rfl⟩ (Nat.le_of_ble_eq_true rfl) dX5_takes_1 rfl) rfl (fun x1 => ?_)
  refine T_iload_n (pc := 4) 1 dX5_takes_4 rfl rfl ?_
  refine T_icmp_eq (pc := 5) 10 dX5_takes_5 (by decide) (fun _ => ?_) (fun _ => ?_)
  · refine T_aload_n (pc := 10) 0 dX5_takes_10 rfl rfl ?_
    refine T_dup_a (pc := 11) dX5_takes_11 ?_
    refine T_getI (pc := 12) fd_2_3 hw240 dX5_takes_12 ?_
    refine T_iconst (pc := 15) (v := 1) dX5_takes_15 (by decide) ?_
    refine T_iadd (pc := 16) dX5_takes_16 ?_
    refine T_putI (pc := 17) fd_2_3 hw240 dX5_takes_17 ?_
    refine T_letS (fun s2 => ?_)
    refine T_iconst (pc := 20) (v := 1) dX5_takes_20 (by decide) ?_
    exact T_zreturn (pc := 21) true rfl dX5_takes_21 rfl rfl
  · refine T_iconst (pc := 8) (v := 0) dX5_takes_8 (by decide) ?_
    exact T_zreturn (pc := 9) false rfl dX5_takes_9 rfl rfl
set_option maxRecDepth 100000 in
set_option maxHeartbeats 4000000 in
theorem ctX5_value_r (σ : St) : Ct yX5_value kX5_value_r [.ref 2] σ (cPl σ) (fX5_value_r σ) := by
  refine Ct.of (by decide +kernel) rfl rfl (Nat.le_of_ble_eq_true rfl) ?_
  unfold fX5_value_r
  show T _ _ _ 0 [(0, .ref 2)] [] _
  refine T_aload_n (pc := 0) 0 dX5_value_0 rfl rfl ?_
  refine T_getR (pc := 1) fd_2_2 hw239 dX5_value_1 ?_
  refine T_ifnull_r (pc := 4) dX5_value_4 ?_
  refine T_aload_n (pc := 7) 0 dX5_value_7 rfl rfl ?_
  refine T_getI (pc := 8) fd_2_3 hw240 dX5_value_8 ?_
  refine T_if_lt (pc := 11) 42 dX5_value_11 (by decide) (fun _ => ?_) (fun _ => ?_)
  · refine T_lconst (pc := 42) (v := 0) dX5_value_42 (by decide) ?_
    exact T_lreturn (pc := 43) rfl dX5_value_43 rfl
  · refine T_aload_n (pc := 14) 0 dX5_value_14 rfl rfl ?_
    refine T_getI (pc := 15) fd_2_3 hw240 dX5_value_15 ?_
    refine T_aload_n (pc := 18) 0 dX5_value_18 rfl rfl ?_
    refine T_getR (pc := 19) fd_2_2 hw239 dX5_value_19 ?_
    refine T_alenX (pc := 22) dX5_value_22 ?_
    refine T_icmp_ge (pc := 23) 42 dX5_value_23 (by decide) (fun _ => ?_) (fun _ => ?_)
    · refine T_lconst (pc := 42) (v := 0) dX5_value_42 (by decide) ?_
      exact T_lreturn (pc := 43) rfl dX5_value_43 rfl
    · refine T_aload_n (pc := 26) 0 dX5_value_26 rfl rfl ?_
      refine T_getR (pc := 27) fd_2_2 hw239 dX5_value_27 ?_
      refine T_aload_n (pc := 30) 0 dX5_value_30 rfl rfl ?_
      refine T_getI (pc := 31) fd_2_3 hw240 dX5_value_31 ?_
      refine T_laldX (pc := 34) dX5_value_34 (fun x1 => ?_)
      refine T_ldc2 (pc := 35) hw544 dX5_value_35 ?_
      refine T_lsub (pc := 38) dX5_value_38 ?_
      refine T_goto (pc := 39) 43 dX5_value_39 (by decide) ?_
      exact T_lreturn (pc := 43) rfl dX5_value_43 rfl
set_option maxRecDepth 100000 in
set_option maxHeartbeats 4000000 in
theorem ctX5_step_r (σ : St) : Ct yX5_step kX5_step_r [.ref 2] σ cSv (fX5_step_r σ) := by
  refine Ct.of (by decide +kernel) rfl rfl (Nat.le_of_ble_eq_true rfl) ?_
  unfold fX5_step_r
  show T _ _ _ 0 [(0, .ref 2)] [] _
  refine T_aload_n (pc := 0) 0 dX5_step_0 rfl rfl ?_
  refine T_dup_a (pc := 1) dX5_step_1 ?_
  refine T_getI (pc := 2) fd_2_3 hw240 dX5_step_2 ?_
  refine T_iconst (pc := 5) (v := 1) dX5_step_5 (by decide) ?_
  refine T_iadd (pc := 6) dX5_step_6 ?_
  refine T_putI (pc := 7) fd_2_3 hw240 dX5_step_7 ?_
  refine T_letS (fun s1 => ?_)
  exact T_return (pc := 10) rfl dX5_step_10 rfl
set_option maxRecDepth 100000 in
set_option maxHeartbeats 4000000 in
theorem ctX5_spoil_r (σ : St) : Ct yX5_spoil kX5_spoil_r [.ref 2] σ cSv (fX5_spoil_r σ) := by
  refine Ct.of (by decide +kernel) rfl rfl (Nat.le_of_ble_eq_true rfl) ?_
  unfold fX5_spoil_r
  show T _ _ _ 0 [(0, .ref 2)] [] _
  refine T_aload_n (pc := 0) 0 dX5_spoil_0 rfl rfl ?_
  refine T_getI (pc := 1) fd_2_4 hw241 dX5_spoil_1 ?_
  refine T_iconst (pc := 4) (v := -1) dX5_spoil_4 (by decide) ?_
  refine T_icmp_ne (pc := 5) 40 dX5_spoil_5 (by decide) (fun _ => ?_) (fun _ => ?_)
  · exact T_return (pc := 40) rfl dX5_spoil_40 rfl
  · refine T_aload_n (pc := 8) 0 dX5_spoil_8 rfl rfl ?_
    refine T_getI (pc := 9) fd_2_3 hw240 dX5_spoil_9 ?_
    refine T_if_lt (pc := 12) 40 dX5_spoil_12 (by decide) (fun _ => ?_) (fun _ => ?_)
    · exact T_return (pc := 40) rfl dX5_spoil_40 rfl
    · refine T_aload_n (pc := 15) 0 dX5_spoil_15 rfl rfl ?_
      refine T_getI (pc := 16) fd_2_3 hw240 dX5_spoil_16 ?_
      refine T_aload_n (pc := 19) 0 dX5_spoil_19 rfl rfl ?_
      refine T_getA (pc := 20) fd_2_1 hw238 dX5_spoil_20 ?_
      refine T_alen (pc := 23) (v := 201) rfl (by decide) dX5_spoil_23 ?_
      refine T_icmp_ge (pc := 24) 40 dX5_spoil_24 (by decide) (fun _ => ?_) (fun _ => ?_)
      · exact T_return (pc := 40) rfl dX5_spoil_40 rfl
      · refine T_aload_n (pc := 27) 0 dX5_spoil_27 rfl rfl ?_
        refine T_aload_n (pc := 28) 0 dX5_spoil_28 rfl rfl ?_
        refine T_getA (pc := 29) fd_2_1 hw238 dX5_spoil_29 ?_
        refine T_aload_n (pc := 32) 0 dX5_spoil_32 rfl rfl ?_
        refine T_getI (pc := 33) fd_2_3 hw240 dX5_spoil_33 ?_
        refine T_iald (pc := 36) rfl dX5_spoil_36 (fun x1 => ?_)
        refine T_putI (pc := 37) fd_2_4 hw241 dX5_spoil_37 ?_
        refine T_letS (fun s2 => ?_)
        exact T_return (pc := 40) rfl dX5_spoil_40 rfl
set_option maxRecDepth 100000 in
set_option maxHeartbeats 4000000 in
theorem fX6_takeWords_15_L6_T (v2 : Int32) (v3 : Int32) (σ : St) {k1 : St → Int32 → Option (Int32 × St)} {kb : St → Int32 → Int32 → Option (Int32 × St)} (hk1 : ∀ (σ' : St) (w4 : Int32), T kX6_takeWords_15 cSi σ' 54 [(0, .ref 2), (4, .int w4)] [] (k1 σ' w4)) (hkb : ∀ (σ' : St) (w4 : Int32) (w5 : Int32), T kX6_takeWords_15 cSi σ' 6 [(0, .ref 2), (1, .ref 15), (2, .int v2), (3, .int v3), (4, .int w4), (5, .int w5)] [] (kb σ' w4 w5)) (v4 : Int32) (v5 : Int32) : T kX6_takeWords_15 cSi σ 6 [(0, .ref 2), (1, .ref 15), (2, .int v2), (3, .int v3), (4, .int v4), (5, .int v5)] [] (fX6_takeWords_15_L6 v2 v3 k1 kb σ v4 v5) := by
  unfold fX6_takeWords_15_L6
  refine T_iload (pc := 6) 5 dX6_takeWords_6 rfl ?_
  refine T_iload_n (pc := 8) 3 dX6_takeWords_8 rfl rfl ?_
  refine T_icmp_ge (pc := 9) 54 dX6_takeWords_9 (by decide) (fun _ => ?_) (fun _ => ?_)
  · refine T_pick (lv' := [(0, .ref 2), (4, .int v4)]) [0, 4] rfl ?_
    exact hk1 σ v4
  · refine T_iload_n (pc := 12) 2 dX6_takeWords_12 rfl rfl ?_
    refine T_iload (pc := 13) 5 dX6_takeWords_13 rfl ?_
    refine T_iadd (pc := 15) dX6_takeWords_15 ?_
    refine T_aload_n (pc := 16) 1 dX6_takeWords_16 rfl rfl ?_
    refine T_alenL (pc := 17) (v := 24) rfl (by decide) dX6_takeWords_17 ?_
    refine T_icmp_ge (pc := 18) 54 dX6_takeWords_18 (by decide) (fun _ => ?_) (fun _ => ?_)
    · refine T_pick (lv' := [(0, .ref 2), (4, .int v4)]) [0, 4] rfl ?_
      exact hk1 σ v4
    · refine T_aload_n (pc := 21) 0 dX6_takeWords_21 rfl rfl ?_
      refine T_callPi (pc := 22) (rest := []) (Rn_U (pc := 22) (x := ⟨"CueRolls$RollReader", "sign", "()I"⟩) (as := []) (rest := []) (ctX5_sign_r σ) rfl rfl mu_X6_X6_X5_sign hw705 rfl rfl ⟨Nat.le_of_ble_eq_true rfl, Nat.le_of_ble_eq_true rfl⟩ (Nat.le_of_ble_eq_true rfl) dX6_takeWords_22 rfl) rfl (fun x1 => ?_)
      refine T_sipush (pc := 25) (v := 1000) dX6_takeWords_25 (by decide) ?_
      refine T_icmp_ne (pc := 28) 54 dX6_takeWords_28 (by decide) (fun _ => ?_) (fun _ => ?_)
      · refine T_pick (lv' := [(0, .ref 2), (4, .int v4)]) [0, 4] rfl ?_
        exact hk1 σ v4
      · refine T_aload_n (pc := 31) 1 dX6_takeWords_31 rfl rfl ?_
        refine T_iload_n (pc := 32) 2 dX6_takeWords_32 rfl rfl ?_
        refine T_iload (pc := 33) 5 dX6_takeWords_33 rfl ?_
        refine T_iadd (pc := 35) dX6_takeWords_35 ?_
        refine T_aload_n (pc := 36) 0 dX6_takeWords_36 rfl rfl ?_
        refine T_callPl (pc := 37) (rest := [.int (v2 + v5), .ref 15]) (Rn_U (pc := 37) (x := ⟨"CueRolls$RollReader", "value", "()J"⟩) (as := []) (rest := [.int (v2 + v5), .ref 15]) (ctX5_value_r σ) rfl rfl mu_X6_X6_X5_value hw708 rfl rfl ⟨Nat.le_of_ble_eq_true rfl, Nat.le_of_ble_eq_true rfl⟩ (Nat.le_of_ble_eq_true rfl) dX6_takeWords_37 rfl) rfl (fun x2 => ?_)
        refine T_last (pc := 40) rfl dX6_takeWords_40 ?_
        refine T_letS (fun s3 => ?_)
        refine T_iinc (pc := 41) (y := 1) (lv' := [(0, .ref 2), (1, .ref 15), (2, .int v2), (3, .int v3), (4, .int (v4 + (1 : Int32))), (5, .int v5)]) 4 dX6_takeWords_41 (by decide) rfl (Nat.le_of_ble_eq_true rfl) rfl ?_
        refine T_aload_n (pc := 44) 0 dX6_takeWords_44 rfl rfl ?_
        refine T_callSv (pc := 45) (rest := []) (Rn_U (pc := 45) (x := ⟨"CueRolls$RollReader", "step", "()V"⟩) (as := []) (rest := []) (ctX5_step_r s3) rfl rfl mu_X6_X6_X5_step hw711 rfl rfl ⟨Nat.le_of_ble_eq_true rfl, Nat.le_of_ble_eq_true rfl⟩ (Nat.le_of_ble_eq_true rfl) dX6_takeWords_45 rfl) rfl (fun s4 => ?_)
        refine T_iinc (pc := 48) (y := 1) (lv' := [(0, .ref 2), (1, .ref 15), (2, .int v2), (3, .int v3), (4, .int (v4 + (1 : Int32))), (5, .int (v5 + (1 : Int32)))]) 5 dX6_takeWords_48 (by decide) rfl (Nat.le_of_ble_eq_true rfl) rfl ?_
        refine T_goto (pc := 51) 6 dX6_takeWords_51 (by decide) ?_
        exact hkb s4 (v4 + (1 : Int32)) (v5 + (1 : Int32))
set_option maxRecDepth 100000 in
set_option maxHeartbeats 4000000 in
theorem fX6_takeWords_15_P6_T (v2 : Int32) (v3 : Int32) (σ : St) {k1 : St → Int32 → Option (Int32 × St)} (hk1 : ∀ (σ' : St) (w4 : Int32), T kX6_takeWords_15 cSi σ' 54 [(0, .ref 2), (4, .int w4)] [] (k1 σ' w4)) (v4 : Int32) (v5 : Int32) : T kX6_takeWords_15 cSi σ 6 [(0, .ref 2), (1, .ref 15), (2, .int v2), (3, .int v3), (4, .int v4), (5, .int v5)] [] (fX6_takeWords_15_P6 v2 v3 k1 σ v4 v5) :=
  it_T (S := (fun t : St × Int32 × Int32 => t.1)) (lv := fun t : St × Int32 × Int32 => [(0, .ref 2), (1, .ref 15), (2, .int v2), (3, .int v3), (4, .int t.2.1), (5, .int t.2.2)]) (st := fun _ => []) (fun kb hkb t => fX6_takeWords_15_L6_T v2 v3 (hk1 := hk1) (hkb := fun σ v4 v5 => hkb (σ, v4, v5)) t.1 t.2.1 t.2.2) FU (σ, v4, v5)
set_option maxRecDepth 100000 in
set_option maxHeartbeats 4000000 in
theorem ctX6_takeWords_15 (σ : St) (p1 : Int32) (p2 : Int32) : Ct yX6_takeWords kX6_takeWords_15 [.ref 2, .ref 15, .int p1, .int p2] σ cSi (fX6_takeWords_15 σ p1 p2) := by
  refine Ct.of (by decide +kernel) rfl rfl (Nat.le_of_ble_eq_true rfl) ?_
  unfold fX6_takeWords_15
  show T _ _ _ 0 [(0, .ref 2), (1, .ref 15), (2, .int p1), (3, .int p2)] [] _
  refine T_iconst (pc := 0) (v := 0) dX6_takeWords_0 (by decide) ?_
  refine T_istore (pc := 1) (lv' := [(0, .ref 2), (1, .ref 15), (2, .int p1), (3, .int p2), (4, .int (0 : Int32))]) dX6_takeWords_1 (Nat.le_of_ble_eq_true rfl) rfl ?_
  refine T_iconst (pc := 3) (v := 0) dX6_takeWords_3 (by decide) ?_
  refine T_istore (pc := 4) (lv' := [(0, .ref 2), (1, .ref 15), (2, .int p1), (3, .int p2), (4, .int (0 : Int32)), (5, .int (0 : Int32))]) dX6_takeWords_4 (Nat.le_of_ble_eq_true rfl) rfl ?_
  refine fX6_takeWords_15_P6_T p1 p2 (hk1 := fun s5 x6 => ?_) σ (0 : Int32) (0 : Int32)
  · refine T_iload (pc := 54) 1 dX6_takeWords_54 rfl ?_
    refine T_if_ne (pc := 56) 63 dX6_takeWords_56 (by decide) (fun _ => ?_) (fun _ => ?_)
    · refine T_iload (pc := 63) 1 dX6_takeWords_63 rfl ?_
      exact T_ireturn (pc := 65) rfl dX6_takeWords_65 rfl
    · refine T_aload_n (pc := 59) 0 dX6_takeWords_59 rfl rfl ?_
      refine T_callSv (pc := 60) (rest := []) (Rn_U (pc := 60) (x := ⟨"CueRolls$RollReader", "spoil", "()V"⟩) (as := []) (rest := []) (ctX5_spoil_r s5) rfl rfl mu_X6_X6_X5_spoil hw714 rfl rfl ⟨Nat.le_of_ble_eq_true rfl, Nat.le_of_ble_eq_true rfl⟩ (Nat.le_of_ble_eq_true rfl) dX6_takeWords_60 rfl) rfl (fun s7 => ?_)
      refine T_iload (pc := 63) 1 dX6_takeWords_63 rfl ?_
      exact T_ireturn (pc := 65) rfl dX6_takeWords_65 rfl
set_option maxRecDepth 100000 in
set_option maxHeartbeats 4000000 in
theorem ctX5_needs_r (σ : St) (p0 : Int32) : Ct yX5_needs kX5_needs_r [.ref 2, .int p0] σ cSv (fX5_needs_r σ p0) := by
  refine Ct.of (by decide +kernel) rfl rfl (Nat.le_of_ble_eq_true rfl) ?_
  unfold fX5_needs_r
  show T _ _ _ 0 [(0, .ref 2), (1, .int p0)] [] _
  refine T_aload_n (pc := 0) 0 dX5_needs_0 rfl rfl ?_
  refine T_callPi (pc := 1) (rest := []) (Rn_U (pc := 1) (x := ⟨"CueRolls$Reader", "sign", "()I"⟩) (as := []) (rest := []) (ctX5_sign_r σ) rfl rfl mu_X6_Reader_X5_sign hw583 rfl rfl ⟨Nat.le_of_ble_eq_true rfl, Nat.le_of_ble_eq_true rfl⟩ (Nat.le_of_ble_eq_true rfl) dX5_needs_1 rfl) rfl (fun x1 => ?_)
  refine T_iload_n (pc := 4) 1 dX5_needs_4 rfl rfl ?_
  refine T_icmp_ne (pc := 5) 21 dX5_needs_5 (by decide) (fun _ => ?_) (fun _ => ?_)
  · refine T_aload_n (pc := 21) 0 dX5_needs_21 rfl rfl ?_
    refine T_callSv (pc := 22) (rest := []) (Rn_U (pc := 22) (x := ⟨"CueRolls$Reader", "spoil", "()V"⟩) (as := []) (rest := []) (ctX5_spoil_r σ) rfl rfl mu_X6_Reader_X5_spoil hw590 rfl rfl ⟨Nat.le_of_ble_eq_true rfl, Nat.le_of_ble_eq_true rfl⟩ (Nat.le_of_ble_eq_true rfl) dX5_needs_22 rfl) rfl (fun s2 => ?_)
    exact T_return (pc := 25) rfl dX5_needs_25 rfl
  · refine T_aload_n (pc := 8) 0 dX5_needs_8 rfl rfl ?_
    refine T_dup_a (pc := 9) dX5_needs_9 ?_
    refine T_getI (pc := 10) fd_2_3 hw240 dX5_needs_10 ?_
    refine T_iconst (pc := 13) (v := 1) dX5_needs_13 (by decide) ?_
    refine T_iadd (pc := 14) dX5_needs_14 ?_
    refine T_putI (pc := 15) fd_2_3 hw240 dX5_needs_15 ?_
    refine T_letS (fun s3 => ?_)
    refine T_goto (pc := 18) 25 dX5_needs_18 (by decide) ?_
    exact T_return (pc := 25) rfl dX5_needs_25 rfl
set_option maxRecDepth 100000 in
set_option maxHeartbeats 4000000 in
theorem fX6_takeWords_17_L6_T (v2 : Int32) (v3 : Int32) (σ : St) {k1 : St → Int32 → Option (Int32 × St)} {kb : St → Int32 → Int32 → Option (Int32 × St)} (hk1 : ∀ (σ' : St) (w4 : Int32), T kX6_takeWords_17 cSi σ' 54 [(0, .ref 2), (4, .int w4)] [] (k1 σ' w4)) (hkb : ∀ (σ' : St) (w4 : Int32) (w5 : Int32), T kX6_takeWords_17 cSi σ' 6 [(0, .ref 2), (1, .ref 17), (2, .int v2), (3, .int v3), (4, .int w4), (5, .int w5)] [] (kb σ' w4 w5)) (v4 : Int32) (v5 : Int32) : T kX6_takeWords_17 cSi σ 6 [(0, .ref 2), (1, .ref 17), (2, .int v2), (3, .int v3), (4, .int v4), (5, .int v5)] [] (fX6_takeWords_17_L6 v2 v3 k1 kb σ v4 v5) := by
  unfold fX6_takeWords_17_L6
  refine T_iload (pc := 6) 5 dX6_takeWords_6 rfl ?_
  refine T_iload_n (pc := 8) 3 dX6_takeWords_8 rfl rfl ?_
  refine T_icmp_ge (pc := 9) 54 dX6_takeWords_9 (by decide) (fun _ => ?_) (fun _ => ?_)
  · refine T_pick (lv' := [(0, .ref 2), (4, .int v4)]) [0, 4] rfl ?_
    exact hk1 σ v4
  · refine T_iload_n (pc := 12) 2 dX6_takeWords_12 rfl rfl ?_
    refine T_iload (pc := 13) 5 dX6_takeWords_13 rfl ?_
    refine T_iadd (pc := 15) dX6_takeWords_15 ?_
    refine T_aload_n (pc := 16) 1 dX6_takeWords_16 rfl rfl ?_
    refine T_alenL (pc := 17) (v := 144) rfl (by decide) dX6_takeWords_17 ?_
    refine T_icmp_ge (pc := 18) 54 dX6_takeWords_18 (by decide) (fun _ => ?_) (fun _ => ?_)
    · refine T_pick (lv' := [(0, .ref 2), (4, .int v4)]) [0, 4] rfl ?_
      exact hk1 σ v4
    · refine T_aload_n (pc := 21) 0 dX6_takeWords_21 rfl rfl ?_
      refine T_callPi (pc := 22) (rest := []) (Rn_U (pc := 22) (x := ⟨"CueRolls$RollReader", "sign", "()I"⟩) (as := []) (rest := []) (ctX5_sign_r σ) rfl rfl mu_X6_X6_X5_sign hw705 rfl rfl ⟨Nat.le_of_ble_eq_true rfl, Nat.le_of_ble_eq_true rfl⟩ (Nat.le_of_ble_eq_true rfl) dX6_takeWords_22 rfl) rfl (fun x1 => ?_)
      refine T_sipush (pc := 25) (v := 1000) dX6_takeWords_25 (by decide) ?_
      refine T_icmp_ne (pc := 28) 54 dX6_takeWords_28 (by decide) (fun _ => ?_) (fun _ => ?_)
      · refine T_pick (lv' := [(0, .ref 2), (4, .int v4)]) [0, 4] rfl ?_
        exact hk1 σ v4
      · refine T_aload_n (pc := 31) 1 dX6_takeWords_31 rfl rfl ?_
        refine T_iload_n (pc := 32) 2 dX6_takeWords_32 rfl rfl ?_
        refine T_iload (pc := 33) 5 dX6_takeWords_33 rfl ?_
        refine T_iadd (pc := 35) dX6_takeWords_35 ?_
        refine T_aload_n (pc := 36) 0 dX6_takeWords_36 rfl rfl ?_
        refine T_callPl (pc := 37) (rest := [.int (v2 + v5), .ref 17]) (Rn_U (pc := 37) (x := ⟨"CueRolls$RollReader", "value", "()J"⟩) (as := []) (rest := [.int (v2 + v5), .ref 17]) (ctX5_value_r σ) rfl rfl mu_X6_X6_X5_value hw708 rfl rfl ⟨Nat.le_of_ble_eq_true rfl, Nat.le_of_ble_eq_true rfl⟩ (Nat.le_of_ble_eq_true rfl) dX6_takeWords_37 rfl) rfl (fun x2 => ?_)
        refine T_last (pc := 40) rfl dX6_takeWords_40 ?_
        refine T_letS (fun s3 => ?_)
        refine T_iinc (pc := 41) (y := 1) (lv' := [(0, .ref 2), (1, .ref 17), (2, .int v2), (3, .int v3), (4, .int (v4 + (1 : Int32))), (5, .int v5)]) 4 dX6_takeWords_41 (by decide) rfl (Nat.le_of_ble_eq_true rfl) rfl ?_
        refine T_aload_n (pc := 44) 0 dX6_takeWords_44 rfl rfl ?_
        refine T_callSv (pc := 45) (rest := []) (Rn_U (pc := 45) (x := ⟨"CueRolls$RollReader", "step", "()V"⟩) (as := []) (rest := []) (ctX5_step_r s3) rfl rfl mu_X6_X6_X5_step hw711 rfl rfl ⟨Nat.le_of_ble_eq_true rfl, Nat.le_of_ble_eq_true rfl⟩ (Nat.le_of_ble_eq_true rfl) dX6_takeWords_45 rfl) rfl (fun s4 => ?_)
        refine T_iinc (pc := 48) (y := 1) (lv' := [(0, .ref 2), (1, .ref 17), (2, .int v2), (3, .int v3), (4, .int (v4 + (1 : Int32))), (5, .int (v5 + (1 : Int32)))]) 5 dX6_takeWords_48 (by decide) rfl (Nat.le_of_ble_eq_true rfl) rfl ?_
        refine T_goto (pc := 51) 6 dX6_takeWords_51 (by decide) ?_
        exact hkb s4 (v4 + (1 : Int32)) (v5 + (1 : Int32))
set_option maxRecDepth 100000 in
set_option maxHeartbeats 4000000 in
theorem fX6_takeWords_17_P6_T (v2 : Int32) (v3 : Int32) (σ : St) {k1 : St → Int32 → Option (Int32 × St)} (hk1 : ∀ (σ' : St) (w4 : Int32), T kX6_takeWords_17 cSi σ' 54 [(0, .ref 2), (4, .int w4)] [] (k1 σ' w4)) (v4 : Int32) (v5 : Int32) : T kX6_takeWords_17 cSi σ 6 [(0, .ref 2), (1, .ref 17), (2, .int v2), (3, .int v3), (4, .int v4), (5, .int v5)] [] (fX6_takeWords_17_P6 v2 v3 k1 σ v4 v5) :=
  it_T (S := (fun t : St × Int32 × Int32 => t.1)) (lv := fun t : St × Int32 × Int32 => [(0, .ref 2), (1, .ref 17), (2, .int v2), (3, .int v3), (4, .int t.2.1), (5, .int t.2.2)]) (st := fun _ => []) (fun kb hkb t => fX6_takeWords_17_L6_T v2 v3 (hk1 := hk1) (hkb := fun σ v4 v5 => hkb (σ, v4, v5)) t.1 t.2.1 t.2.2) FU (σ, v4, v5)
set_option maxRecDepth 100000 in
set_option maxHeartbeats 4000000 in
theorem ctX6_takeWords_17 (σ : St) (p1 : Int32) (p2 : Int32) : Ct yX6_takeWords kX6_takeWords_17 [.ref 2, .ref 17, .int p1, .int p2] σ cSi (fX6_takeWords_17 σ p1 p2) := by
  refine Ct.of (by decide +kernel) rfl rfl (Nat.le_of_ble_eq_true rfl) ?_
  unfold fX6_takeWords_17
  show T _ _ _ 0 [(0, .ref 2), (1, .ref 17), (2, .int p1), (3, .int p2)] [] _
  refine T_iconst (pc := 0) (v := 0) dX6_takeWords_0 (by decide) ?_
  refine T_istore (pc := 1) (lv' := [(0, .ref 2), (1, .ref 17), (2, .int p1), (3, .int p2), (4, .int (0 : Int32))]) dX6_takeWords_1 (Nat.le_of_ble_eq_true rfl) rfl ?_
  refine T_iconst (pc := 3) (v := 0) dX6_takeWords_3 (by decide) ?_
  refine T_istore (pc := 4) (lv' := [(0, .ref 2), (1, .ref 17), (2, .int p1), (3, .int p2), (4, .int (0 : Int32)), (5, .int (0 : Int32))]) dX6_takeWords_4 (Nat.le_of_ble_eq_true rfl) rfl ?_
  refine fX6_takeWords_17_P6_T p1 p2 (hk1 := fun s5 x6 => ?_) σ (0 : Int32) (0 : Int32)
  · refine T_iload (pc := 54) 1 dX6_takeWords_54 rfl ?_
    refine T_if_ne (pc := 56) 63 dX6_takeWords_56 (by decide) (fun _ => ?_) (fun _ => ?_)
    · refine T_iload (pc := 63) 1 dX6_takeWords_63 rfl ?_
      exact T_ireturn (pc := 65) rfl dX6_takeWords_65 rfl
    · refine T_aload_n (pc := 59) 0 dX6_takeWords_59 rfl rfl ?_
      refine T_callSv (pc := 60) (rest := []) (Rn_U (pc := 60) (x := ⟨"CueRolls$RollReader", "spoil", "()V"⟩) (as := []) (rest := []) (ctX5_spoil_r s5) rfl rfl mu_X6_X6_X5_spoil hw714 rfl rfl ⟨Nat.le_of_ble_eq_true rfl, Nat.le_of_ble_eq_true rfl⟩ (Nat.le_of_ble_eq_true rfl) dX6_takeWords_60 rfl) rfl (fun s7 => ?_)
      refine T_iload (pc := 63) 1 dX6_takeWords_63 rfl ?_
      exact T_ireturn (pc := 65) rfl dX6_takeWords_65 rfl
set_option maxRecDepth 100000 in
set_option maxHeartbeats 4000000 in
theorem fX6_takeAll_J49_T (σ : St) (v2 : Int32) (t0 : Int32) (t1 : Int32) {kb : St → Int32 → Int32 → Option St} (hkb : ∀ (σ' : St) (w1 : Int32) (w2 : Int32), T kX6_takeAll cSv σ' 9 [(0, .ref 2), (1, .int w1), (2, .int w2)] [] (kb σ' w1 w2)) : T kX6_takeAll cSv σ 49 [(0, .ref 2), (2, .int v2)] [.int t0, .int t1, .ref 14] (fX6_takeAll_J49 kb σ v2 t0 t1) := by
  unfold fX6_takeAll_J49
  refine T_iast (pc := 49) rfl dX6_takeAll_49 ?_
  refine T_letS (fun s4 => ?_)
  refine T_aload_n (pc := 50) 0 dX6_takeAll_50 rfl rfl ?_
  refine T_bipush (pc := 51) (v := 62) dX6_takeAll_51 (by decide) ?_
  refine T_callSv (pc := 53) (rest := []) (Rn_U (pc := 53) (x := ⟨"CueRolls$RollReader", "needs", "(I)V"⟩) (as := [.int (62 : Int32)]) (rest := []) (ctX5_needs_r s4 (62 : Int32)) rfl rfl mu_X6_X6_X5_needs hw717 rfl rfl ⟨Nat.le_of_ble_eq_true rfl, Nat.le_of_ble_eq_true rfl⟩ (Nat.le_of_ble_eq_true rfl) dX6_takeAll_53 rfl) rfl (fun s5 => ?_)
  refine T_aload_n (pc := 56) 0 dX6_takeAll_56 rfl rfl ?_
  refine T_getA (pc := 57) fd_2_7 hw234 dX6_takeAll_57 ?_
  refine T_iload_n (pc := 60) 1 dX6_takeAll_60 rfl rfl ?_
  refine T_aload_n (pc := 61) 0 dX6_takeAll_61 rfl rfl ?_
  refine T_aload_n (pc := 62) 0 dX6_takeAll_62 rfl rfl ?_
  refine T_getA (pc := 63) fd_2_8 hw235 dX6_takeAll_63 ?_
  refine T_bipush (pc := 66) (v := 12) dX6_takeAll_66 (by decide) ?_
  refine T_iload_n (pc := 68) 1 dX6_takeAll_68 rfl rfl ?_
  refine T_imul (pc := 69) dX6_takeAll_69 ?_
  refine T_bipush (pc := 70) (v := 12) dX6_takeAll_70 (by decide) ?_
  refine T_callSi (pc := 72) (rest := [.int v2, .ref 16]) (Rn_V (pc := 72) (as := [.ref 17, .int ((12 : Int32) * v2), .int (12 : Int32)]) (rest := [.int v2, .ref 16]) (ctX6_takeWords_17 s5 ((12 : Int32) * v2) (12 : Int32)) rfl rfl mv_X6_takeWords hw701 rfl ⟨Nat.le_of_ble_eq_true rfl, Nat.le_of_ble_eq_true rfl⟩ (Nat.le_of_ble_eq_true rfl) dX6_takeAll_72 rfl) rfl (fun r6 => ?_)
  refine T_iast (pc := 75) rfl dX6_takeAll_75 ?_
  refine T_letS (fun s7 => ?_)
  refine T_aload_n (pc := 76) 0 dX6_takeAll_76 rfl rfl ?_
  refine T_dup_a (pc := 77) dX6_takeAll_77 ?_
  refine T_getI (pc := 78) fd_2_9 hw236 dX6_takeAll_78 ?_
  refine T_iconst (pc := 81) (v := 1) dX6_takeAll_81 (by decide) ?_
  refine T_iadd (pc := 82) dX6_takeAll_82 ?_
  refine T_putI (pc := 83) fd_2_9 hw236 dX6_takeAll_83 ?_
  refine T_letS (fun s8 => ?_)
  refine T_iload_n (pc := 86) 1 dX6_takeAll_86 rfl rfl ?_
  refine T_iconst (pc := 87) (v := 1) dX6_takeAll_87 (by decide) ?_
  refine T_iadd (pc := 88) dX6_takeAll_88 ?_
  refine T_bipush (pc := 89) (v := 12) dX6_takeAll_89 (by decide) ?_
  refine T_icmp_ge (pc := 91) 107 dX6_takeAll_91 (by decide) (fun _ => ?_) (fun _ => ?_)
  · refine T_iconst (pc := 107) (v := 0) dX6_takeAll_107 (by decide) ?_
    refine T_istore_n (pc := 108) (lv' := [(0, .ref 2), (1, .int (0 : Int32)), (2, .int v2)]) dX6_takeAll_108 rfl (Nat.le_of_ble_eq_true rfl) rfl ?_
    refine T_iinc (pc := 109) (y := 1) (lv' := [(0, .ref 2), (1, .int (0 : Int32)), (2, .int (v2 + (1 : Int32)))]) 2 dX6_takeAll_109 (by decide) rfl (Nat.le_of_ble_eq_true rfl) rfl ?_
    refine T_goto (pc := 112) 9 dX6_takeAll_112 (by decide) ?_
    exact hkb s8 (0 : Int32) (v2 + (1 : Int32))
  · refine T_aload_n (pc := 94) 0 dX6_takeAll_94 rfl rfl ?_
    refine T_bipush (pc := 95) (v := 59) dX6_takeAll_95 (by decide) ?_
    refine T_callSz (pc := 97) (rest := []) (Rn_U (pc := 97) (x := ⟨"CueRolls$RollReader", "takes", "(I)Z"⟩) (as := [.int (59 : Int32)]) (rest := []) (ctX5_takes_r s8 (59 : Int32)) rfl rfl mu_X6_X6_X5_takes hw698 rfl rfl ⟨Nat.le_of_ble_eq_true rfl, Nat.le_of_ble_eq_true rfl⟩ (Nat.le_of_ble_eq_true rfl) dX6_takeAll_97 rfl) rfl (fun r9 => ?_)
    refine T_if_eq (pc := 100) 107 dX6_takeAll_100 (by decide) (fun _ => ?_) (fun _ => ?_)
    · refine T_iconst (pc := 107) (v := 0) dX6_takeAll_107 (by decide) ?_
      refine T_istore_n (pc := 108) (lv' := [(0, .ref 2), (1, .int (0 : Int32)), (2, .int v2)]) dX6_takeAll_108 rfl (Nat.le_of_ble_eq_true rfl) rfl ?_
      refine T_iinc (pc := 109) (y := 1) (lv' := [(0, .ref 2), (1, .int (0 : Int32)), (2, .int (v2 + (1 : Int32)))]) 2 dX6_takeAll_109 (by decide) rfl (Nat.le_of_ble_eq_true rfl) rfl ?_
      refine T_goto (pc := 112) 9 dX6_takeAll_112 (by decide) ?_
      exact hkb r9.2 (0 : Int32) (v2 + (1 : Int32))
    · refine T_iconst (pc := 103) (v := 1) dX6_takeAll_103 (by decide) ?_
      refine T_goto (pc := 104) 108 dX6_takeAll_104 (by decide) ?_
      refine T_istore_n (pc := 108) (lv' := [(0, .ref 2), (1, .int (1 : Int32)), (2, .int v2)]) dX6_takeAll_108 rfl (Nat.le_of_ble_eq_true rfl) rfl ?_
      refine T_iinc (pc := 109) (y := 1) (lv' := [(0, .ref 2), (1, .int (1 : Int32)), (2, .int (v2 + (1 : Int32)))]) 2 dX6_takeAll_109 (by decide) rfl (Nat.le_of_ble_eq_true rfl) rfl ?_
      refine T_goto (pc := 112) 9 dX6_takeAll_112 (by decide) ?_
      exact hkb r9.2 (1 : Int32) (v2 + (1 : Int32))
set_option maxRecDepth 100000 in
set_option maxHeartbeats 4000000 in
theorem fX6_takeAll_L9_T (σ : St) {kb : St → Int32 → Int32 → Option St} (hkb : ∀ (σ' : St) (w1 : Int32) (w2 : Int32), T kX6_takeAll cSv σ' 9 [(0, .ref 2), (1, .int w1), (2, .int w2)] [] (kb σ' w1 w2)) (v1 : Int32) (v2 : Int32) : T kX6_takeAll cSv σ 9 [(0, .ref 2), (1, .int v1), (2, .int v2)] [] (fX6_takeAll_L9 kb σ v1 v2) := by
  unfold fX6_takeAll_L9
  refine T_iload_n (pc := 9) 2 dX6_takeAll_9 rfl rfl ?_
  refine T_bipush (pc := 10) (v := 12) dX6_takeAll_10 (by decide) ?_
  refine T_icmp_ge (pc := 12) 115 dX6_takeAll_12 (by decide) (fun _ => ?_) (fun _ => ?_)
  · exact T_return (pc := 115) rfl dX6_takeAll_115 rfl
  · refine T_iload_n (pc := 15) 1 dX6_takeAll_15 rfl rfl ?_
    refine T_if_eq (pc := 16) 115 dX6_takeAll_16 (by decide) (fun _ => ?_) (fun _ => ?_)
    · exact T_return (pc := 115) rfl dX6_takeAll_115 rfl
    · refine T_aload_n (pc := 19) 0 dX6_takeAll_19 rfl rfl ?_
      refine T_getA (pc := 20) fd_2_5 hw232 dX6_takeAll_20 ?_
      refine T_iload_n (pc := 23) 2 dX6_takeAll_23 rfl rfl ?_
      refine T_aload_n (pc := 24) 0 dX6_takeAll_24 rfl rfl ?_
      refine T_bipush (pc := 25) (v := 45) dX6_takeAll_25 (by decide) ?_
      refine T_callSz (pc := 27) (rest := [.int v2, .ref 14]) (Rn_U (pc := 27) (x := ⟨"CueRolls$RollReader", "takes", "(I)Z"⟩) (as := [.int (45 : Int32)]) (rest := [.int v2, .ref 14]) (ctX5_takes_r σ (45 : Int32)) rfl rfl mu_X6_X6_X5_takes hw698 rfl rfl ⟨Nat.le_of_ble_eq_true rfl, Nat.le_of_ble_eq_true rfl⟩ (Nat.le_of_ble_eq_true rfl) dX6_takeAll_27 rfl) rfl (fun r2 => ?_)
      refine T_if_eq (pc := 30) 37 dX6_takeAll_30 (by decide) (fun _ => ?_) (fun _ => ?_)
      · refine T_aload_n (pc := 37) 0 dX6_takeAll_37 rfl rfl ?_
        refine T_aload_n (pc := 38) 0 dX6_takeAll_38 rfl rfl ?_
        refine T_getA (pc := 39) fd_2_6 hw233 dX6_takeAll_39 ?_
        refine T_iconst (pc := 42) (v := 2) dX6_takeAll_42 (by decide) ?_
        refine T_iload_n (pc := 43) 2 dX6_takeAll_43 rfl rfl ?_
        refine T_imul (pc := 44) dX6_takeAll_44 ?_
        refine T_iconst (pc := 45) (v := 2) dX6_takeAll_45 (by decide) ?_
        refine T_callSi (pc := 46) (rest := [.int v2, .ref 14]) (Rn_V (pc := 46) (as := [.ref 15, .int ((2 : Int32) * v2), .int (2 : Int32)]) (rest := [.int v2, .ref 14]) (ctX6_takeWords_15 r2.2 ((2 : Int32) * v2) (2 : Int32)) rfl rfl mv_X6_takeWords hw701 rfl ⟨Nat.le_of_ble_eq_true rfl, Nat.le_of_ble_eq_true rfl⟩ (Nat.le_of_ble_eq_true rfl) dX6_takeAll_46 rfl) rfl (fun r3 => ?_)
        refine T_pick (lv' := [(0, .ref 2), (2, .int v2)]) [0, 2] rfl ?_
        exact fX6_takeAll_J49_T (hkb := hkb) r3.2 v2 r3.1 v2
      · refine T_iconst (pc := 33) (v := 0) dX6_takeAll_33 (by decide) ?_
        refine T_goto (pc := 34) 49 dX6_takeAll_34 (by decide) ?_
        refine T_pick (lv' := [(0, .ref 2), (2, .int v2)]) [0, 2] rfl ?_
        exact fX6_takeAll_J49_T (hkb := hkb) r2.2 v2 (0 : Int32) v2
set_option maxRecDepth 100000 in
set_option maxHeartbeats 4000000 in
theorem fX6_takeAll_P9_T (σ : St) (v1 : Int32) (v2 : Int32) : T kX6_takeAll cSv σ 9 [(0, .ref 2), (1, .int v1), (2, .int v2)] [] (fX6_takeAll_P9 σ v1 v2) :=
  it_T (S := (fun t : St × Int32 × Int32 => t.1)) (lv := fun t : St × Int32 × Int32 => [(0, .ref 2), (1, .int t.2.1), (2, .int t.2.2)]) (st := fun _ => []) (fun kb hkb t => fX6_takeAll_L9_T (hkb := fun σ v1 v2 => hkb (σ, v1, v2)) t.1 t.2.1 t.2.2) FU (σ, v1, v2)
set_option maxRecDepth 100000 in
set_option maxHeartbeats 4000000 in
theorem ctX6_takeAll (σ : St) : Ct yX6_takeAll kX6_takeAll [.ref 2] σ cSv (fX6_takeAll σ) := by
  refine Ct.of (by decide +kernel) rfl rfl (Nat.le_of_ble_eq_true rfl) ?_
  unfold fX6_takeAll
  show T _ _ _ 0 [(0, .ref 2)] [] _
  refine T_aload_n (pc := 0) 0 dX6_takeAll_0 rfl rfl ?_
  refine T_iconst (pc := 1) (v := 0) dX6_takeAll_1 (by decide) ?_
  refine T_putI (pc := 2) fd_2_9 hw236 dX6_takeAll_2 ?_
  refine T_letS (fun s1 => ?_)
  refine T_iconst (pc := 5) (v := 1) dX6_takeAll_5 (by decide) ?_
  refine T_istore_n (pc := 6) (lv' := [(0, .ref 2), (1, .int (1 : Int32))]) dX6_takeAll_6 rfl (Nat.le_of_ble_eq_true rfl) rfl ?_
  refine T_iconst (pc := 7) (v := 0) dX6_takeAll_7 (by decide) ?_
  refine T_istore_n (pc := 8) (lv' := [(0, .ref 2), (1, .int (1 : Int32)), (2, .int (0 : Int32))]) dX6_takeAll_8 rfl (Nat.le_of_ble_eq_true rfl) rfl ?_
  exact fX6_takeAll_P9_T s1 (1 : Int32) (0 : Int32)
set_option maxRecDepth 100000 in
set_option maxHeartbeats 4000000 in
theorem ctX5_faultOf_r (σ : St) : Ct yX5_faultOf kX5_faultOf_r [.ref 2, .ref 1] σ cSi (fX5_faultOf_r σ) := by
  refine Ct.of (by decide +kernel) rfl rfl (Nat.le_of_ble_eq_true rfl) ?_
  unfold fX5_faultOf_r
  show T _ _ _ 0 [(0, .ref 2), (1, .ref 1)] [] _
  refine T_aload_n (pc := 0) 0 dX5_faultOf_0 rfl rfl ?_
  refine T_aload_n (pc := 1) 1 dX5_faultOf_1 rfl rfl ?_
  refine T_callSv (pc := 2) (rest := []) (Rn_U (pc := 2) (x := ⟨"CueRolls$Reader", "cutUp", "(LCueRolls$Tape;)V"⟩) (as := [.ref 1]) (rest := []) (ctX5_cutUp_r σ) rfl rfl mu_X6_Reader_X5_cutUp hw511 rfl rfl ⟨Nat.le_of_ble_eq_true rfl, Nat.le_of_ble_eq_true rfl⟩ (Nat.le_of_ble_eq_true rfl) dX5_faultOf_2 rfl) rfl (fun s1 => ?_)
  refine T_aload_n (pc := 5) 0 dX5_faultOf_5 rfl rfl ?_
  refine T_aload_n (pc := 6) 0 dX5_faultOf_6 rfl rfl ?_
  refine T_getA (pc := 7) fd_2_0 hw237 dX5_faultOf_7 ?_
  refine T_callSv (pc := 10) (rest := []) (Rn_U (pc := 10) (x := ⟨"CueRolls$Reader", "begin", "([J)V"⟩) (as := [.ref 12]) (rest := []) (ctX5_begin_r_12 s1) rfl rfl mu_X6_Reader_X5_begin hw564 rfl rfl ⟨Nat.le_of_ble_eq_true rfl, Nat.le_of_ble_eq_true rfl⟩ (Nat.le_of_ble_eq_true rfl) dX5_faultOf_10 rfl) rfl (fun s2 => ?_)
  refine T_aload_n (pc := 13) 0 dX5_faultOf_13 rfl rfl ?_
  refine T_callSv (pc := 14) (rest := []) (Rn_A (pc := 14) (x := ⟨"CueRolls$Reader", "takeAll", "()V"⟩) (as := []) (rest := []) (ctX6_takeAll s2) rfl rfl mu_X6_Reader_X6_takeAll hw571 (by decide) rfl ⟨Nat.le_of_ble_eq_true rfl, Nat.le_of_ble_eq_true rfl⟩ (Nat.le_of_ble_eq_true rfl) dX5_faultOf_14 rfl) rfl (fun s3 => ?_)
  refine T_aload_n (pc := 17) 0 dX5_faultOf_17 rfl rfl ?_
  refine T_callPi (pc := 18) (rest := []) (Rn_U (pc := 18) (x := ⟨"CueRolls$Reader", "sign", "()I"⟩) (as := []) (rest := []) (ctX5_sign_r s3) rfl rfl mu_X6_Reader_X5_sign hw583 rfl rfl ⟨Nat.le_of_ble_eq_true rfl, Nat.le_of_ble_eq_true rfl⟩ (Nat.le_of_ble_eq_true rfl) dX5_faultOf_18 rfl) rfl (fun x4 => ?_)
  refine T_sipush (pc := 21) (v := 256) dX5_faultOf_21 (by decide) ?_
  refine T_icmp_eq (pc := 24) 31 dX5_faultOf_24 (by decide) (fun _ => ?_) (fun _ => ?_)
  · refine T_aload_n (pc := 31) 0 dX5_faultOf_31 rfl rfl ?_
    refine T_getI (pc := 32) fd_2_4 hw241 dX5_faultOf_32 ?_
    exact T_ireturn (pc := 35) rfl dX5_faultOf_35 rfl
  · refine T_aload_n (pc := 27) 0 dX5_faultOf_27 rfl rfl ?_
    refine T_callSv (pc := 28) (rest := []) (Rn_U (pc := 28) (x := ⟨"CueRolls$Reader", "spoil", "()V"⟩) (as := []) (rest := []) (ctX5_spoil_r s3) rfl rfl mu_X6_Reader_X5_spoil hw590 rfl rfl ⟨Nat.le_of_ble_eq_true rfl, Nat.le_of_ble_eq_true rfl⟩ (Nat.le_of_ble_eq_true rfl) dX5_faultOf_28 rfl) rfl (fun s5 => ?_)
    refine T_aload_n (pc := 31) 0 dX5_faultOf_31 rfl rfl ?_
    refine T_getI (pc := 32) fd_2_4 hw241 dX5_faultOf_32 ?_
    exact T_ireturn (pc := 35) rfl dX5_faultOf_35 rfl
set_option maxRecDepth 100000 in
set_option maxHeartbeats 4000000 in
theorem ctX11_fault (σ : St) (p0 : Int32) : Ct yX11_fault kX11_fault [.ref 0, .int p0] σ cSi (fX11_fault σ p0) := by
  refine Ct.of (by decide +kernel) rfl rfl (Nat.le_of_ble_eq_true rfl) ?_
  unfold fX11_fault
  show T _ _ _ 0 [(0, .ref 0), (1, .int p0)] [] _
  refine T_aload_n (pc := 0) 0 dX11_fault_0 rfl rfl ?_
  refine T_iload_n (pc := 1) 1 dX11_fault_1 rfl rfl ?_
  refine T_callRd (pc := 2) (rest := []) (Rn_V (pc := 2) (as := [.int p0]) (rest := []) (ctX11_readerOf σ p0) rfl rfl mv_X11_readerOf hw500 rfl ⟨Nat.le_of_ble_eq_true rfl, Nat.le_of_ble_eq_true rfl⟩ (Nat.le_of_ble_eq_true rfl) dX11_fault_2 rfl) rfl ?_
  refine T_ite (fun h0 => ?_) (fun h0 => ?_)
  · rw [show rdr p0 = .ref 2 from by unfold rdr; rw [if_pos h0]]
    refine T_astore_n (pc := 5) (lv' := [(0, .ref 0), (1, .int p0), (2, .ref 2)]) dX11_fault_5 rfl (Nat.le_of_ble_eq_true rfl) rfl ?_
    refine T_aload_n (pc := 6) 2 dX11_fault_6 rfl rfl ?_
    refine T_ifnonnull_r (pc := 7) 15 dX11_fault_7 (by decide) ?_
    refine T_aload_n (pc := 15) 2 dX11_fault_15 rfl rfl ?_
    refine T_aload_n (pc := 16) 0 dX11_fault_16 rfl rfl ?_
    refine T_getA (pc := 17) fd_0_0 hw439 dX11_fault_17 ?_
    refine T_callSi (pc := 20) (rest := []) (Rn_U (pc := 20) (x := ⟨"CueRolls$Reader", "faultOf", "(LCueRolls$Tape;)I"⟩) (as := [.ref 1]) (rest := []) (ctX5_faultOf_r σ) rfl rfl mu_X6_Reader_X5_faultOf hw504 rfl rfl ⟨Nat.le_of_ble_eq_true rfl, Nat.le_of_ble_eq_true rfl⟩ (Nat.le_of_ble_eq_true rfl) dX11_fault_20 rfl) rfl (fun r3 => ?_)
    exact T_ireturn (pc := 23) rfl dX11_fault_23 rfl
  · refine T_ite (fun h1 => ?_) (fun h1 => ?_)
    · rw [show rdr p0 = .ref 3 from by unfold rdr; rw [if_neg h0, if_pos h1]]
      refine T_astore_n (pc := 5) (lv' := [(0, .ref 0), (1, .int p0), (2, .ref 3)]) dX11_fault_5 rfl (Nat.le_of_ble_eq_true rfl) rfl ?_
      refine T_aload_n (pc := 6) 2 dX11_fault_6 rfl rfl ?_
      refine T_ifnonnull_r (pc := 7) 15 dX11_fault_7 (by decide) ?_
      refine T_aload_n (pc := 15) 2 dX11_fault_15 rfl rfl ?_
      refine T_aload_n (pc := 16) 0 dX11_fault_16 rfl rfl ?_
      refine T_getA (pc := 17) fd_0_0 hw439 dX11_fault_17 ?_
      refine T_callSi (pc := 20) (rest := []) (Rn_U (pc := 20) (x := ⟨"CueRolls$Reader", "faultOf", "(LCueRolls$Tape;)I"⟩) (as := [.ref 1]) (rest := []) (ctX5_faultOf_p σ) rfl rfl mu_X3_Reader_X5_faultOf hw504 rfl rfl ⟨Nat.le_of_ble_eq_true rfl, Nat.le_of_ble_eq_true rfl⟩ (Nat.le_of_ble_eq_true rfl) dX11_fault_20 rfl) rfl (fun r2 => ?_)
      exact T_ireturn (pc := 23) rfl dX11_fault_23 rfl
    · refine T_ite (fun h2 => ?_) (fun h2 => ?_)
      · rw [show rdr p0 = .ref 4 from by unfold rdr; rw [if_neg h0, if_neg h1, if_pos h2]]
        refine T_astore_n (pc := 5) (lv' := [(0, .ref 0), (1, .int p0), (2, .ref 4)]) dX11_fault_5 rfl (Nat.le_of_ble_eq_true rfl) rfl ?_
        refine T_aload_n (pc := 6) 2 dX11_fault_6 rfl rfl ?_
        refine T_ifnonnull_r (pc := 7) 15 dX11_fault_7 (by decide) ?_
        refine T_aload_n (pc := 15) 2 dX11_fault_15 rfl rfl ?_
        refine T_aload_n (pc := 16) 0 dX11_fault_16 rfl rfl ?_
        refine T_getA (pc := 17) fd_0_0 hw439 dX11_fault_17 ?_
        refine T_callSi (pc := 20) (rest := []) (Rn_U (pc := 20) (x := ⟨"CueRolls$Reader", "faultOf", "(LCueRolls$Tape;)I"⟩) (as := [.ref 1]) (rest := []) (ctX5_faultOf_h σ) rfl rfl mu_X1_Reader_X5_faultOf hw504 rfl rfl ⟨Nat.le_of_ble_eq_true rfl, Nat.le_of_ble_eq_true rfl⟩ (Nat.le_of_ble_eq_true rfl) dX11_fault_20 rfl) rfl (fun r1 => ?_)
        exact T_ireturn (pc := 23) rfl dX11_fault_23 rfl
      · rw [show rdr p0 = .null from by unfold rdr; rw [if_neg h0, if_neg h1, if_neg h2]]
        refine T_astore_nN (pc := 5) (lv' := [(0, .ref 0), (1, .int p0), (2, .null)]) dX11_fault_5 rfl (Nat.le_of_ble_eq_true rfl) rfl ?_
        refine T_aload_nN (pc := 6) 2 dX11_fault_6 rfl rfl ?_
        refine T_ifnonnull_n (pc := 7) dX11_fault_7 ?_
        refine T_bipush (pc := 10) (v := -2) dX11_fault_10 (by decide) ?_
        refine T_goto (pc := 12) 23 dX11_fault_12 (by decide) ?_
        exact T_ireturn (pc := 23) rfl dX11_fault_23 rfl
set_option maxRecDepth 100000 in
set_option maxHeartbeats 4000000 in
theorem fX9_told_L5_T (v0 : Int32) (σ : St) {kb : Int32 → Int32 → Option Int32} (hkb : ∀ (w1 : Int32) (w2 : Int32), T kX9_told (cPi σ) σ 5 [(0, .int v0), (1, .int w1), (2, .int w2)] [] (kb w1 w2)) (v1 : Int32) (v2 : Int32) : T kX9_told (cPi σ) σ 5 [(0, .int v0), (1, .int v1), (2, .int v2)] [] (fX9_told_L5 v0 kb v1 v2) := by
  unfold fX9_told_L5
  refine T_iload_n (pc := 5) 2 dX9_told_5 rfl rfl ?_
  refine T_if_lt (pc := 6) 28 dX9_told_6 (by decide) (fun _ => ?_) (fun _ => ?_)
  · refine T_iload_n (pc := 28) 1 dX9_told_28 rfl rfl ?_
    exact T_ireturn (pc := 29) rfl dX9_told_29 rfl
  · refine T_iload_n (pc := 9) 0 dX9_told_9 rfl rfl ?_
    refine T_iload_n (pc := 10) 2 dX9_told_10 rfl rfl ?_
    refine T_iushr (pc := 11) dX9_told_11 ?_
    refine T_sipush (pc := 12) (v := 255) dX9_told_12 (by decide) ?_
    refine T_iand (pc := 15) dX9_told_15 ?_
    refine T_if_eq (pc := 16) 22 dX9_told_16 (by decide) (fun _ => ?_) (fun _ => ?_)
    · refine T_iinc (pc := 22) (y := -8) (lv' := [(0, .int v0), (1, .int v1), (2, .int (v2 + (-8 : Int32)))]) 2 dX9_told_22 (by decide) rfl (Nat.le_of_ble_eq_true rfl) rfl ?_
      refine T_goto (pc := 25) 5 dX9_told_25 (by decide) ?_
      exact hkb v1 (v2 + (-8 : Int32))
    · refine T_iinc (pc := 19) (y := 1) (lv' := [(0, .int v0), (1, .int (v1 + (1 : Int32))), (2, .int v2)]) 1 dX9_told_19 (by decide) rfl (Nat.le_of_ble_eq_true rfl) rfl ?_
      refine T_iinc (pc := 22) (y := -8) (lv' := [(0, .int v0), (1, .int (v1 + (1 : Int32))), (2, .int (v2 + (-8 : Int32)))]) 2 dX9_told_22 (by decide) rfl (Nat.le_of_ble_eq_true rfl) rfl ?_
      refine T_goto (pc := 25) 5 dX9_told_25 (by decide) ?_
      exact hkb (v1 + (1 : Int32)) (v2 + (-8 : Int32))
set_option maxRecDepth 100000 in
set_option maxHeartbeats 4000000 in
theorem fX9_told_P5_T (v0 : Int32) (σ : St) (v1 : Int32) (v2 : Int32) : T kX9_told (cPi σ) σ 5 [(0, .int v0), (1, .int v1), (2, .int v2)] [] (fX9_told_P5 v0 v1 v2) :=
  it_T (S := (fun _ : Int32 × Int32 => σ)) (lv := fun t : Int32 × Int32 => [(0, .int v0), (1, .int t.1), (2, .int t.2)]) (st := fun _ => []) (fun kb hkb t => fX9_told_L5_T v0 (hkb := fun v1 v2 => hkb (v1, v2)) σ t.1 t.2) FU (v1, v2)
set_option maxRecDepth 100000 in
set_option maxHeartbeats 4000000 in
theorem ctX9_told (σ : St) (p0 : Int32) : Ct yX9_told kX9_told [.int p0] σ (cPi σ) (fX9_told p0) := by
  refine Ct.of (by decide +kernel) rfl rfl (Nat.le_of_ble_eq_true rfl) ?_
  unfold fX9_told
  show T _ _ _ 0 [(0, .int p0)] [] _
  refine T_iconst (pc := 0) (v := 0) dX9_told_0 (by decide) ?_
  refine T_istore_n (pc := 1) (lv' := [(0, .int p0), (1, .int (0 : Int32))]) dX9_told_1 rfl (Nat.le_of_ble_eq_true rfl) rfl ?_
  refine T_bipush (pc := 2) (v := 24) dX9_told_2 (by decide) ?_
  refine T_istore_n (pc := 4) (lv' := [(0, .int p0), (1, .int (0 : Int32)), (2, .int (24 : Int32))]) dX9_told_4 rfl (Nat.le_of_ble_eq_true rfl) rfl ?_
  exact fX9_told_P5_T p0 σ (0 : Int32) (24 : Int32)
set_option maxRecDepth 100000 in
set_option maxHeartbeats 4000000 in
theorem fX9_put_L3_T (v1 : Int32) (σ : St) {kb : St → Int32 → Option St} (hkb : ∀ (σ' : St) (w2 : Int32), T kX9_put cSv σ' 3 [(0, .ref 1), (1, .int v1), (2, .int w2)] [] (kb σ' w2)) (v2 : Int32) : T kX9_put cSv σ 3 [(0, .ref 1), (1, .int v1), (2, .int v2)] [] (fX9_put_L3 v1 kb σ v2) := by
  unfold fX9_put_L3
  refine T_iload_n (pc := 3) 2 dX9_put_3 rfl rfl ?_
  refine T_if_lt (pc := 4) 65 dX9_put_4 (by decide) (fun _ => ?_) (fun _ => ?_)
  · exact T_return (pc := 65) rfl dX9_put_65 rfl
  · refine T_iload_n (pc := 7) 1 dX9_put_7 rfl rfl ?_
    refine T_iload_n (pc := 8) 2 dX9_put_8 rfl rfl ?_
    refine T_iushr (pc := 9) dX9_put_9 ?_
    refine T_sipush (pc := 10) (v := 255) dX9_put_10 (by decide) ?_
    refine T_iand (pc := 13) dX9_put_13 ?_
    refine T_letI (fun x1 => ?_)
    refine T_istore_n (pc := 14) (lv' := [(0, .ref 1), (1, .int v1), (2, .int v2), (3, .int x1)]) dX9_put_14 rfl (Nat.le_of_ble_eq_true rfl) rfl ?_
    refine T_iload_n (pc := 15) 3 dX9_put_15 rfl rfl ?_
    refine T_if_eq (pc := 16) 59 dX9_put_16 (by decide) (fun _ => ?_) (fun _ => ?_)
    · refine T_iinc (pc := 59) (y := -8) (lv' := [(0, .ref 1), (1, .int v1), (2, .int (v2 + (-8 : Int32))), (3, .int x1)]) 2 dX9_put_59 (by decide) rfl (Nat.le_of_ble_eq_true rfl) rfl ?_
      refine T_goto (pc := 62) 3 dX9_put_62 (by decide) ?_
      refine T_pick (lv' := [(0, .ref 1), (1, .int v1), (2, .int (v2 + (-8 : Int32)))]) [0, 1, 2] rfl ?_
      exact hkb σ (v2 + (-8 : Int32))
    · refine T_aload_n (pc := 19) 0 dX9_put_19 rfl rfl ?_
      refine T_getI (pc := 20) fd_1_1 hw216 dX9_put_20 ?_
      refine T_if_lt (pc := 23) 59 dX9_put_23 (by decide) (fun _ => ?_) (fun _ => ?_)
      · refine T_iinc (pc := 59) (y := -8) (lv' := [(0, .ref 1), (1, .int v1), (2, .int (v2 + (-8 : Int32))), (3, .int x1)]) 2 dX9_put_59 (by decide) rfl (Nat.le_of_ble_eq_true rfl) rfl ?_
        refine T_goto (pc := 62) 3 dX9_put_62 (by decide) ?_
        refine T_pick (lv' := [(0, .ref 1), (1, .int v1), (2, .int (v2 + (-8 : Int32)))]) [0, 1, 2] rfl ?_
        exact hkb σ (v2 + (-8 : Int32))
      · refine T_aload_n (pc := 26) 0 dX9_put_26 rfl rfl ?_
        refine T_getI (pc := 27) fd_1_1 hw216 dX9_put_27 ?_
        refine T_aload_n (pc := 30) 0 dX9_put_30 rfl rfl ?_
        refine T_getA (pc := 31) fd_1_0 hw215 dX9_put_31 ?_
        refine T_alenB (pc := 34) (v := 200) rfl (by decide) dX9_put_34 ?_
        refine T_icmp_ge (pc := 35) 59 dX9_put_35 (by decide) (fun _ => ?_) (fun _ => ?_)
        · refine T_iinc (pc := 59) (y := -8) (lv' := [(0, .ref 1), (1, .int v1), (2, .int (v2 + (-8 : Int32))), (3, .int x1)]) 2 dX9_put_59 (by decide) rfl (Nat.le_of_ble_eq_true rfl) rfl ?_
          refine T_goto (pc := 62) 3 dX9_put_62 (by decide) ?_
          refine T_pick (lv' := [(0, .ref 1), (1, .int v1), (2, .int (v2 + (-8 : Int32)))]) [0, 1, 2] rfl ?_
          exact hkb σ (v2 + (-8 : Int32))
        · refine T_aload_n (pc := 38) 0 dX9_put_38 rfl rfl ?_
          refine T_getA (pc := 39) fd_1_0 hw215 dX9_put_39 ?_
          refine T_aload_n (pc := 42) 0 dX9_put_42 rfl rfl ?_
          refine T_getI (pc := 43) fd_1_1 hw216 dX9_put_43 ?_
          refine T_iload_n (pc := 46) 3 dX9_put_46 rfl rfl ?_
          refine T_i2b (pc := 47) dX9_put_47 ?_
          refine T_bast (pc := 48) rfl dX9_put_48 ?_
          refine T_letS (fun s2 => ?_)
          refine T_aload_n (pc := 49) 0 dX9_put_49 rfl rfl ?_
          refine T_dup_a (pc := 50) dX9_put_50 ?_
          refine T_getI (pc := 51) fd_1_1 hw216 dX9_put_51 ?_
          refine T_iconst (pc := 54) (v := 1) dX9_put_54 (by decide) ?_
          refine T_iadd (pc := 55) dX9_put_55 ?_
          refine T_putI (pc := 56) fd_1_1 hw216 dX9_put_56 ?_
          refine T_letS (fun s3 => ?_)
          refine T_iinc (pc := 59) (y := -8) (lv' := [(0, .ref 1), (1, .int v1), (2, .int (v2 + (-8 : Int32))), (3, .int x1)]) 2 dX9_put_59 (by decide) rfl (Nat.le_of_ble_eq_true rfl) rfl ?_
          refine T_goto (pc := 62) 3 dX9_put_62 (by decide) ?_
          refine T_pick (lv' := [(0, .ref 1), (1, .int v1), (2, .int (v2 + (-8 : Int32)))]) [0, 1, 2] rfl ?_
          exact hkb s3 (v2 + (-8 : Int32))
set_option maxRecDepth 100000 in
set_option maxHeartbeats 4000000 in
theorem fX9_put_P3_T (v1 : Int32) (σ : St) (v2 : Int32) : T kX9_put cSv σ 3 [(0, .ref 1), (1, .int v1), (2, .int v2)] [] (fX9_put_P3 v1 σ v2) :=
  it_T (S := (fun t : St × Int32 => t.1)) (lv := fun t : St × Int32 => [(0, .ref 1), (1, .int v1), (2, .int t.2)]) (st := fun _ => []) (fun kb hkb t => fX9_put_L3_T v1 (hkb := fun σ v2 => hkb (σ, v2)) t.1 t.2) FU (σ, v2)
set_option maxRecDepth 100000 in
set_option maxHeartbeats 4000000 in
theorem ctX9_put (σ : St) (p0 : Int32) : Ct yX9_put kX9_put [.ref 1, .int p0] σ cSv (fX9_put σ p0) := by
  refine Ct.of (by decide +kernel) rfl rfl (Nat.le_of_ble_eq_true rfl) ?_
  unfold fX9_put
  show T _ _ _ 0 [(0, .ref 1), (1, .int p0)] [] _
  refine T_bipush (pc := 0) (v := 24) dX9_put_0 (by decide) ?_
  refine T_istore_n (pc := 2) (lv' := [(0, .ref 1), (1, .int p0), (2, .int (24 : Int32))]) dX9_put_2 rfl (Nat.le_of_ble_eq_true rfl) rfl ?_
  exact fX9_put_P3_T p0 σ (24 : Int32)
