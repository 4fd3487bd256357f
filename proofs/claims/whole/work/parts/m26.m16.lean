/-! methods X12_wrong .. X5_value_p: by program (wip/gen) -/
set_option maxRecDepth 100000 in
set_option maxHeartbeats 4000000 in
theorem fX12_wrong_L9_T (v1 : Int32) (σ : St) {k1 : Int32 → Option (Int32 × St)} {kb : Int32 → Int32 → Option (Int32 × St)} (hk1 : ∀ (w2 : Int32), T kX12_wrong cSi σ 44 [(1, .int v1), (2, .int w2)] [] (k1 w2)) (hkb : ∀ (w2 : Int32) (w3 : Int32), T kX12_wrong cSi σ 9 [(0, .ref 10), (1, .int v1), (2, .int w2), (3, .int w3)] [] (kb w2 w3)) (v2 : Int32) (v3 : Int32) : T kX12_wrong cSi σ 9 [(0, .ref 10), (1, .int v1), (2, .int v2), (3, .int v3)] [] (fX12_wrong_L9 v1 k1 kb σ v2 v3) := by
  unfold fX12_wrong_L9
  refine T_iload_n (pc := 9) 3 dX12_wrong_9 rfl rfl ?_
  refine T_aload_n (pc := 10) 0 dX12_wrong_10 rfl rfl ?_
  refine T_getI (pc := 11) fd_10_48 hw1551 dX12_wrong_11 ?_
  refine T_icmp_ge (pc := 14) 44 dX12_wrong_14 (by decide) (fun _ => ?_) (fun _ => ?_)
  · refine T_pick (lv' := [(1, .int v1), (2, .int v2)]) [1, 2] rfl ?_
    exact hk1 v2
  · refine T_aload_n (pc := 17) 0 dX12_wrong_17 rfl rfl ?_
    refine T_iload_n (pc := 18) 3 dX12_wrong_18 rfl rfl ?_
    refine T_callPz (pc := 19) (rest := []) (Rn_V (pc := 19) (as := [.int v3]) (rest := []) (ctX12_isWrong σ v3) rfl rfl mv_X12_isWrong hw2016 rfl ⟨Nat.le_of_ble_eq_true rfl, Nat.le_of_ble_eq_true rfl⟩ (Nat.le_of_ble_eq_true rfl) dX12_wrong_19 rfl) rfl (fun x2 => ?_)
    refine T_if_ne (pc := 22) 28 dX12_wrong_22 (by decide) (fun _ => ?_) (fun _ => ?_)
    · refine T_iload_n (pc := 28) 2 dX12_wrong_28 rfl rfl ?_
      refine T_iload_n (pc := 29) 1 dX12_wrong_29 rfl rfl ?_
      refine T_icmp_ne (pc := 30) 35 dX12_wrong_30 (by decide) (fun _ => ?_) (fun _ => ?_)
      · refine T_iinc (pc := 35) (y := 1) (lv' := [(0, .ref 10), (1, .int v1), (2, .int (v2 + (1 : Int32))), (3, .int v3)]) 2 dX12_wrong_35 (by decide) rfl (Nat.le_of_ble_eq_true rfl) rfl ?_
        refine T_iinc (pc := 38) (y := 1) (lv' := [(0, .ref 10), (1, .int v1), (2, .int (v2 + (1 : Int32))), (3, .int (v3 + (1 : Int32)))]) 3 dX12_wrong_38 (by decide) rfl (Nat.le_of_ble_eq_true rfl) rfl ?_
        refine T_goto (pc := 41) 9 dX12_wrong_41 (by decide) ?_
        exact hkb (v2 + (1 : Int32)) (v3 + (1 : Int32))
      · refine T_iload_n (pc := 33) 3 dX12_wrong_33 rfl rfl ?_
        exact T_ireturn (pc := 34) rfl dX12_wrong_34 rfl
    · refine T_goto (pc := 25) 38 dX12_wrong_25 (by decide) ?_
      refine T_iinc (pc := 38) (y := 1) (lv' := [(0, .ref 10), (1, .int v1), (2, .int v2), (3, .int (v3 + (1 : Int32)))]) 3 dX12_wrong_38 (by decide) rfl (Nat.le_of_ble_eq_true rfl) rfl ?_
      refine T_goto (pc := 41) 9 dX12_wrong_41 (by decide) ?_
      exact hkb v2 (v3 + (1 : Int32))
set_option maxRecDepth 100000 in
set_option maxHeartbeats 4000000 in
theorem fX12_wrong_P9_T (v1 : Int32) (σ : St) {k1 : Int32 → Option (Int32 × St)} (hk1 : ∀ (w2 : Int32), T kX12_wrong cSi σ 44 [(1, .int v1), (2, .int w2)] [] (k1 w2)) (v2 : Int32) (v3 : Int32) : T kX12_wrong cSi σ 9 [(0, .ref 10), (1, .int v1), (2, .int v2), (3, .int v3)] [] (fX12_wrong_P9 v1 k1 σ v2 v3) :=
  it_T (S := (fun _ : Int32 × Int32 => σ)) (lv := fun t : Int32 × Int32 => [(0, .ref 10), (1, .int v1), (2, .int t.1), (3, .int t.2)]) (st := fun _ => []) (fun kb hkb t => fX12_wrong_L9_T v1 (hk1 := hk1) (hkb := fun v2 v3 => hkb (v2, v3)) σ t.1 t.2) FU (v2, v3)
set_option maxRecDepth 100000 in
set_option maxHeartbeats 4000000 in
theorem ctX12_wrong (σ : St) (p0 : Int32) : Ct yX12_wrong kX12_wrong [.ref 10, .int p0] σ cSi (fX12_wrong σ p0) := by
  refine Ct.of (by decide +kernel) rfl rfl (Nat.le_of_ble_eq_true rfl) ?_
  unfold fX12_wrong
  show T _ _ _ 0 [(0, .ref 10), (1, .int p0)] [] _
  refine T_aload_n (pc := 0) 0 dX12_wrong_0 rfl rfl ?_
  refine T_iconst (pc := 1) (v := 0) dX12_wrong_1 (by decide) ?_
  refine T_putI (pc := 2) fd_10_0 hw1503 dX12_wrong_2 ?_
  refine T_letS (fun s1 => ?_)
  refine T_iconst (pc := 5) (v := 0) dX12_wrong_5 (by decide) ?_
  refine T_istore_n (pc := 6) (lv' := [(0, .ref 10), (1, .int p0), (2, .int (0 : Int32))]) dX12_wrong_6 rfl (Nat.le_of_ble_eq_true rfl) rfl ?_
  refine T_iconst (pc := 7) (v := 0) dX12_wrong_7 (by decide) ?_
  refine T_istore_n (pc := 8) (lv' := [(0, .ref 10), (1, .int p0), (2, .int (0 : Int32)), (3, .int (0 : Int32))]) dX12_wrong_8 rfl (Nat.le_of_ble_eq_true rfl) rfl ?_
  refine fX12_wrong_P9_T p0 (hk1 := fun x3 => ?_) s1 (0 : Int32) (0 : Int32)
  · refine T_iload_n (pc := 44) 0 dX12_wrong_44 rfl rfl ?_
    refine T_iconst (pc := 45) (v := -1) dX12_wrong_45 (by decide) ?_
    refine T_icmp_ne (pc := 46) 53 dX12_wrong_46 (by decide) (fun _ => ?_) (fun _ => ?_)
    · refine T_iconst (pc := 53) (v := -1) dX12_wrong_53 (by decide) ?_
      exact T_ireturn (pc := 54) rfl dX12_wrong_54 rfl
    · refine T_iload_n (pc := 49) 1 dX12_wrong_49 rfl rfl ?_
      refine T_goto (pc := 50) 54 dX12_wrong_50 (by decide) ?_
      exact T_ireturn (pc := 54) rfl dX12_wrong_54 rfl
set_option maxRecDepth 100000 in
set_option maxHeartbeats 4000000 in
theorem ctX5_needs_p (σ : St) (p0 : Int32) : Ct yX5_needs kX5_needs_p [.ref 3, .int p0] σ cSv (fX5_needs_p σ p0) := by
  refine Ct.of (by decide +kernel) rfl rfl (Nat.le_of_ble_eq_true rfl) ?_
  unfold fX5_needs_p
  show T _ _ _ 0 [(0, .ref 3), (1, .int p0)] [] _
  refine T_aload_n (pc := 0) 0 dX5_needs_0 rfl rfl ?_
  refine T_callPi (pc := 1) (rest := []) (Rn_U (pc := 1) (x := ⟨"CueRolls$Reader", "sign", "()I"⟩) (as := []) (rest := []) (ctX5_sign_p σ) rfl rfl mu_X3_Reader_X5_sign hw583 rfl rfl ⟨Nat.le_of_ble_eq_true rfl, Nat.le_of_ble_eq_true rfl⟩ (Nat.le_of_ble_eq_true rfl) dX5_needs_1 rfl) rfl (fun x1 => ?_)
  refine T_iload_n (pc := 4) 1 dX5_needs_4 rfl rfl ?_
  refine T_icmp_ne (pc := 5) 21 dX5_needs_5 (by decide) (fun _ => ?_) (fun _ => ?_)
  · refine T_aload_n (pc := 21) 0 dX5_needs_21 rfl rfl ?_
    refine T_callSv (pc := 22) (rest := []) (Rn_U (pc := 22) (x := ⟨"CueRolls$Reader", "spoil", "()V"⟩) (as := []) (rest := []) (ctX5_spoil_p σ) rfl rfl mu_X3_Reader_X5_spoil hw590 rfl rfl ⟨Nat.le_of_ble_eq_true rfl, Nat.le_of_ble_eq_true rfl⟩ (Nat.le_of_ble_eq_true rfl) dX5_needs_22 rfl) rfl (fun s2 => ?_)
    exact T_return (pc := 25) rfl dX5_needs_25 rfl
  · refine T_aload_n (pc := 8) 0 dX5_needs_8 rfl rfl ?_
    refine T_dup_a (pc := 9) dX5_needs_9 ?_
    refine T_getI (pc := 10) fd_3_3 hw240 dX5_needs_10 ?_
    refine T_iconst (pc := 13) (v := 1) dX5_needs_13 (by decide) ?_
    refine T_iadd (pc := 14) dX5_needs_14 ?_
    refine T_putI (pc := 15) fd_3_3 hw240 dX5_needs_15 ?_
    refine T_letS (fun s3 => ?_)
    refine T_goto (pc := 18) 25 dX5_needs_18 (by decide) ?_
    exact T_return (pc := 25) rfl dX5_needs_25 rfl
set_option maxRecDepth 100000 in
set_option maxHeartbeats 4000000 in
theorem ctX5_value_p (σ : St) : Ct yX5_value kX5_value_p [.ref 3] σ (cPl σ) (fX5_value_p σ) := by
  refine Ct.of (by decide +kernel) rfl rfl (Nat.le_of_ble_eq_true rfl) ?_
  unfold fX5_value_p
  show T _ _ _ 0 [(0, .ref 3)] [] _
  refine T_aload_n (pc := 0) 0 dX5_value_0 rfl rfl ?_
  refine T_getR (pc := 1) fd_3_2 hw239 dX5_value_1 ?_
  refine T_ifnull_r (pc := 4) dX5_value_4 ?_
  refine T_aload_n (pc := 7) 0 dX5_value_7 rfl rfl ?_
  refine T_getI (pc := 8) fd_3_3 hw240 dX5_value_8 ?_
  refine T_if_lt (pc := 11) 42 dX5_value_11 (by decide) (fun _ => ?_) (fun _ => ?_)
  · refine T_lconst (pc := 42) (v := 0) dX5_value_42 (by decide) ?_
    exact T_lreturn (pc := 43) rfl dX5_value_43 rfl
  · refine T_aload_n (pc := 14) 0 dX5_value_14 rfl rfl ?_
    refine T_getI (pc := 15) fd_3_3 hw240 dX5_value_15 ?_
    refine T_aload_n (pc := 18) 0 dX5_value_18 rfl rfl ?_
    refine T_getR (pc := 19) fd_3_2 hw239 dX5_value_19 ?_
    refine T_alenX (pc := 22) dX5_value_22 ?_
    refine T_icmp_ge (pc := 23) 42 dX5_value_23 (by decide) (fun _ => ?_) (fun _ => ?_)
    · refine T_lconst (pc := 42) (v := 0) dX5_value_42 (by decide) ?_
      exact T_lreturn (pc := 43) rfl dX5_value_43 rfl
    · refine T_aload_n (pc := 26) 0 dX5_value_26 rfl rfl ?_
      refine T_getR (pc := 27) fd_3_2 hw239 dX5_value_27 ?_
      refine T_aload_n (pc := 30) 0 dX5_value_30 rfl rfl ?_
      refine T_getI (pc := 31) fd_3_3 hw240 dX5_value_31 ?_
      refine T_laldX (pc := 34) dX5_value_34 (fun x1 => ?_)
      refine T_ldc2 (pc := 35) hw544 dX5_value_35 ?_
      refine T_lsub (pc := 38) dX5_value_38 ?_
      refine T_goto (pc := 39) 43 dX5_value_39 (by decide) ?_
      exact T_lreturn (pc := 43) rfl dX5_value_43 rfl
