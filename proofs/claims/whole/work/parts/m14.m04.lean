/-! methods X1_compared .. X5_spoil_p: by program (wip/gen) -/
set_option maxRecDepth 100000 in
set_option maxHeartbeats 4000000 in
theorem ctX1_compared (σ : St) (p0 : Int32) (p1 : Int32) : Ct yX1_compared kX1_compared [.ref 4, .int p0, .int p1] σ cSz (fX1_compared σ p0 p1) := by
  refine Ct.of (by decide +kernel) rfl rfl (Nat.le_of_ble_eq_true rfl) ?_
  unfold fX1_compared
  show T _ _ _ 0 [(0, .ref 4), (1, .int p0), (2, .int p1)] [] _
  refine T_aload_n (pc := 0) 0 dX1_compared_0 rfl rfl ?_
  refine T_callPi (pc := 1) (rest := []) (Rn_U (pc := 1) (x := ⟨"CueRolls$Habits", "sign", "()I"⟩) (as := []) (rest := []) (ctX5_sign_h σ) rfl rfl mu_X1_X1_X5_sign hw597 rfl rfl ⟨Nat.le_of_ble_eq_true rfl, Nat.le_of_ble_eq_true rfl⟩ (Nat.le_of_ble_eq_true rfl) dX1_compared_1 rfl) rfl (fun x1 => ?_)
  refine T_istore_n (pc := 4) (lv' := [(0, .ref 4), (1, .int p0), (2, .int p1), (3, .int x1)]) dX1_compared_4 rfl (Nat.le_of_ble_eq_true rfl) rfl ?_
  refine T_iload_n (pc := 5) 3 dX1_compared_5 rfl rfl ?_
  refine T_callPz (pc := 6) (rest := []) (Rn_S (pc := 6) (as := [.int x1]) (rest := []) (ctX1_isRelation σ x1) ms_X1_isRelation hw647 rfl ⟨Nat.le_of_ble_eq_true rfl, Nat.le_of_ble_eq_true rfl⟩ (Nat.le_of_ble_eq_true rfl) dX1_compared_6 rfl) rfl (fun x2 => ?_)
  refine T_if_ne (pc := 9) 18 dX1_compared_9 (by decide) (fun _ => ?_) (fun _ => ?_)
  · refine T_aload_n (pc := 18) 0 dX1_compared_18 rfl rfl ?_
    refine T_callSv (pc := 19) (rest := []) (Rn_U (pc := 19) (x := ⟨"CueRolls$Habits", "step", "()V"⟩) (as := []) (rest := []) (ctX5_step_h σ) rfl rfl mu_X1_X1_X5_step hw613 rfl rfl ⟨Nat.le_of_ble_eq_true rfl, Nat.le_of_ble_eq_true rfl⟩ (Nat.le_of_ble_eq_true rfl) dX1_compared_19 rfl) rfl (fun s3 => ?_)
    refine T_aload_n (pc := 22) 0 dX1_compared_22 rfl rfl ?_
    refine T_iload_n (pc := 23) 2 dX1_compared_23 rfl rfl ?_
    refine T_callSi (pc := 24) (rest := []) (Rn_V (pc := 24) (as := [.int p1]) (rest := []) (ctX1_sum 8 s3 p1) rfl rfl mv_X1_sum hw601 rfl ⟨Nat.le_of_ble_eq_true rfl, Nat.le_of_ble_eq_true rfl⟩ (Nat.le_of_ble_eq_true rfl) dX1_compared_24 rfl) rfl (fun r4 => ?_)
    refine T_istore (pc := 27) (lv' := [(0, .ref 4), (1, .int p0), (2, .int p1), (3, .int x1), (4, .int r4.1)]) dX1_compared_27 (Nat.le_of_ble_eq_true rfl) rfl ?_
    refine T_iload_n (pc := 29) 3 dX1_compared_29 rfl rfl ?_
    refine T_bipush (pc := 30) (v := 61) dX1_compared_30 (by decide) ?_
    refine T_icmp_ne (pc := 32) 47 dX1_compared_32 (by decide) (fun _ => ?_) (fun _ => ?_)
    · refine T_iload_n (pc := 47) 3 dX1_compared_47 rfl rfl ?_
      refine T_bipush (pc := 48) (v := 60) dX1_compared_48 (by decide) ?_
      refine T_icmp_ne (pc := 50) 67 dX1_compared_50 (by decide) (fun _ => ?_) (fun _ => ?_)
      · refine T_iload_n (pc := 67) 1 dX1_compared_67 rfl rfl ?_
        refine T_iload (pc := 68) 4 dX1_compared_68 rfl ?_
        refine T_icmp_le (pc := 70) 77 dX1_compared_70 (by decide) (fun _ => ?_) (fun _ => ?_)
        · refine T_iconst (pc := 77) (v := 0) dX1_compared_77 (by decide) ?_
          exact T_zreturn (pc := 78) false rfl dX1_compared_78 rfl rfl
        · refine T_iconst (pc := 73) (v := 1) dX1_compared_73 (by decide) ?_
          refine T_goto (pc := 74) 78 dX1_compared_74 (by decide) ?_
          exact T_zreturn (pc := 78) true rfl dX1_compared_78 rfl rfl
      · refine T_iload_n (pc := 53) 1 dX1_compared_53 rfl rfl ?_
        refine T_iload (pc := 54) 4 dX1_compared_54 rfl ?_
        refine T_icmp_ge (pc := 56) 63 dX1_compared_56 (by decide) (fun _ => ?_) (fun _ => ?_)
        · refine T_iconst (pc := 63) (v := 0) dX1_compared_63 (by decide) ?_
          refine T_goto (pc := 64) 78 dX1_compared_64 (by decide) ?_
          exact T_zreturn (pc := 78) false rfl dX1_compared_78 rfl rfl
        · refine T_iconst (pc := 59) (v := 1) dX1_compared_59 (by decide) ?_
          refine T_goto (pc := 60) 78 dX1_compared_60 (by decide) ?_
          exact T_zreturn (pc := 78) true rfl dX1_compared_78 rfl rfl
    · refine T_iload_n (pc := 35) 1 dX1_compared_35 rfl rfl ?_
      refine T_iload (pc := 36) 4 dX1_compared_36 rfl ?_
      refine T_icmp_ne (pc := 38) 45 dX1_compared_38 (by decide) (fun _ => ?_) (fun _ => ?_)
      · refine T_iconst (pc := 45) (v := 0) dX1_compared_45 (by decide) ?_
        exact T_zreturn (pc := 46) false rfl dX1_compared_46 rfl rfl
      · refine T_iconst (pc := 41) (v := 1) dX1_compared_41 (by decide) ?_
        refine T_goto (pc := 42) 46 dX1_compared_42 (by decide) ?_
        exact T_zreturn (pc := 46) true rfl dX1_compared_46 rfl rfl
  · refine T_aload_n (pc := 12) 0 dX1_compared_12 rfl rfl ?_
    refine T_callSv (pc := 13) (rest := []) (Rn_U (pc := 13) (x := ⟨"CueRolls$Habits", "spoil", "()V"⟩) (as := []) (rest := []) (ctX5_spoil_h σ) rfl rfl mu_X1_X1_X5_spoil hw632 rfl rfl ⟨Nat.le_of_ble_eq_true rfl, Nat.le_of_ble_eq_true rfl⟩ (Nat.le_of_ble_eq_true rfl) dX1_compared_13 rfl) rfl (fun s5 => ?_)
    refine T_iconst (pc := 16) (v := 0) dX1_compared_16 (by decide) ?_
    exact T_zreturn (pc := 17) false rfl dX1_compared_17 rfl rfl
set_option maxRecDepth 100000 in
set_option maxHeartbeats 4000000 in
theorem ctX5_takes_h (σ : St) (p0 : Int32) : Ct yX5_takes kX5_takes_h [.ref 4, .int p0] σ cSz (fX5_takes_h σ p0) := by
  refine Ct.of (by decide +kernel) rfl rfl (Nat.le_of_ble_eq_true rfl) ?_
  unfold fX5_takes_h
  show T _ _ _ 0 [(0, .ref 4), (1, .int p0)] [] _
  refine T_aload_n (pc := 0) 0 dX5_takes_0 rfl rfl ?_
  refine T_callPi (pc := 1) (rest := []) (Rn_U (pc := 1) (x := ⟨"CueRolls$Reader", "sign", "()I"⟩) (as := []) (rest := []) (ctX5_sign_h σ) rfl rfl mu_X1_Reader_X5_sign hw583 rfl rfl ⟨Nat.le_of_ble_eq_true rfl, Nat.le_of_ble_eq_true rfl⟩ (Nat.le_of_ble_eq_true rfl) dX5_takes_1 rfl) rfl (fun x1 => ?_)
  refine T_iload_n (pc := 4) 1 dX5_takes_4 rfl rfl ?_
  refine T_icmp_eq (pc := 5) 10 dX5_takes_5 (by decide) (fun _ => ?_) (fun _ => ?_)
  · refine T_aload_n (pc := 10) 0 dX5_takes_10 rfl rfl ?_
    refine T_dup_a (pc := 11) dX5_takes_11 ?_
    refine T_getI (pc := 12) fd_4_3 hw240 dX5_takes_12 ?_
    refine T_iconst (pc := 15) (v := 1) dX5_takes_15 (by decide) ?_
    refine T_iadd (pc := 16) dX5_takes_16 ?_
    refine T_putI (pc := 17) fd_4_3 hw240 dX5_takes_17 ?_
    refine T_letS (fun s2 => ?_)
    refine T_iconst (pc := 20) (v := 1) dX5_takes_20 (by decide) ?_
    exact T_zreturn (pc := 21) true rfl dX5_takes_21 rfl rfl
  · refine T_iconst (pc := 8) (v := 0) dX5_takes_8 (by decide) ?_
    exact T_zreturn (pc := 9) false rfl dX5_takes_9 rfl rfl
set_option maxRecDepth 100000 in
set_option maxHeartbeats 4000000 in
theorem fX1_moreUnits_L5_T (d : Nat) (rec : St → Int32 → Option (Bool × St)) (hrec : ∀ (σ : St) (p0 : Int32), Ct yX1_unit (kX1_unit d) [.ref 4, .int p0] σ cSz (rec σ p0)) (v2 : Int32) (σ : St) {kb : St → Int32 → Int32 → Option (Bool × St)} (hkb : ∀ (σ' : St) (w3 : Int32) (w4 : Int32), T (kX1_moreUnits d) cSz σ' 5 [(0, .ref 4), (2, .int v2), (3, .int w3), (4, .int w4)] [] (kb σ' w3 w4)) (v3 : Int32) (v4 : Int32) : T (kX1_moreUnits d) cSz σ 5 [(0, .ref 4), (2, .int v2), (3, .int v3), (4, .int v4)] [] (fX1_moreUnits_L5 rec v2 kb σ v3 v4) := by
  unfold fX1_moreUnits_L5
  refine T_iload (pc := 5) 3 dX1_moreUnits_5 rfl ?_
  refine T_sipush (pc := 7) (v := 200) dX1_moreUnits_7 (by decide) ?_
  refine T_icmp_ge (pc := 10) 36 dX1_moreUnits_10 (by decide) (fun _ => ?_) (fun _ => ?_)
  · refine T_iload_n (pc := 36) 2 dX1_moreUnits_36 rfl rfl ?_
    exact T_zretS (pc := 37) rfl dX1_moreUnits_37
  · refine T_aload_n (pc := 13) 0 dX1_moreUnits_13 rfl rfl ?_
    refine T_bipush (pc := 14) (v := 38) dX1_moreUnits_14 (by decide) ?_
    refine T_callSz (pc := 16) (rest := []) (Rn_U (pc := 16) (x := ⟨"CueRolls$Habits", "takes", "(I)Z"⟩) (as := [.int (38 : Int32)]) (rest := []) (ctX5_takes_h σ (38 : Int32)) rfl rfl mu_X1_X1_X5_takes hw658 rfl rfl ⟨by simp only [kX5_takes_h, kX1_moreUnits]; omega, by simp only [kX5_takes_h, kX1_moreUnits]; omega⟩ (Nat.le_of_ble_eq_true rfl) dX1_moreUnits_16 rfl) rfl (fun r1 => ?_)
    refine T_if_eq (pc := 19) 36 dX1_moreUnits_19 (by decide) (fun _ => ?_) (fun _ => ?_)
    · refine T_iload_n (pc := 36) 2 dX1_moreUnits_36 rfl rfl ?_
      exact T_zretS (pc := 37) rfl dX1_moreUnits_37
    · refine T_iload_n (pc := 22) 2 dX1_moreUnits_22 rfl rfl ?_
      refine T_aload_n (pc := 23) 0 dX1_moreUnits_23 rfl rfl ?_
      refine T_iload_n (pc := 24) 1 dX1_moreUnits_24 rfl rfl ?_
      refine T_callSz (pc := 25) (rest := [.int v3]) (Rn_V (pc := 25) (as := [.int v2]) (rest := [.int v3]) (hrec r1.2 v2) rfl rfl mv_X1_unit hw654 rfl ⟨by simp only [kX1_unit, kX1_moreUnits]; omega, by simp only [kX1_unit, kX1_moreUnits]; omega⟩ (Nat.le_of_ble_eq_true rfl) dX1_moreUnits_25 rfl) rfl (fun r2 => ?_)
      refine T_iand (pc := 28) dX1_moreUnits_28 ?_
      refine T_letI (fun x3 => ?_)
      refine T_istore_n (pc := 29) (lv' := [(0, .ref 4), (2, .int v2), (3, .int x3), (4, .int v4)]) dX1_moreUnits_29 rfl (Nat.le_of_ble_eq_true rfl) rfl ?_
      refine T_iinc (pc := 30) (y := 1) (lv' := [(0, .ref 4), (2, .int v2), (3, .int x3), (4, .int (v4 + (1 : Int32)))]) 3 dX1_moreUnits_30 (by decide) rfl (Nat.le_of_ble_eq_true rfl) rfl ?_
      refine T_goto (pc := 33) 5 dX1_moreUnits_33 (by decide) ?_
      exact hkb r2.2 x3 (v4 + (1 : Int32))
set_option maxRecDepth 100000 in
set_option maxHeartbeats 4000000 in
theorem fX1_moreUnits_P5_T (d : Nat) (rec : St → Int32 → Option (Bool × St)) (hrec : ∀ (σ : St) (p0 : Int32), Ct yX1_unit (kX1_unit d) [.ref 4, .int p0] σ cSz (rec σ p0)) (v2 : Int32) (σ : St) (v3 : Int32) (v4 : Int32) : T (kX1_moreUnits d) cSz σ 5 [(0, .ref 4), (2, .int v2), (3, .int v3), (4, .int v4)] [] (fX1_moreUnits_P5 rec v2 σ v3 v4) :=
  it_T (S := (fun t : St × Int32 × Int32 => t.1)) (lv := fun t : St × Int32 × Int32 => [(0, .ref 4), (2, .int v2), (3, .int t.2.1), (4, .int t.2.2)]) (st := fun _ => []) (fun kb hkb t => fX1_moreUnits_L5_T d rec hrec v2 (hkb := fun σ v3 v4 => hkb (σ, v3, v4)) t.1 t.2.1 t.2.2) FU (σ, v3, v4)
set_option maxRecDepth 100000 in
set_option maxHeartbeats 4000000 in
theorem ctX1_moreUnits_B (d : Nat) (rec : St → Int32 → Option (Bool × St)) (hrec : ∀ (σ : St) (p0 : Int32), Ct yX1_unit (kX1_unit d) [.ref 4, .int p0] σ cSz (rec σ p0)) (σ : St) (p0 : Int32) (p1 : Int32) : Ct yX1_moreUnits (kX1_moreUnits d) [.ref 4, .int p0, .int p1] σ cSz (fX1_moreUnits_B rec σ p0 p1) := by
  refine Ct.of (by decide +kernel) rfl rfl (Nat.le_of_ble_eq_true rfl) ?_
  unfold fX1_moreUnits_B
  show T _ _ _ 0 [(0, .ref 4), (1, .int p0), (2, .int p1)] [] _
  refine T_iload_n (pc := 0) 1 dX1_moreUnits_0 rfl rfl ?_
  refine T_istore_n (pc := 1) (lv' := [(0, .ref 4), (1, .int p0), (2, .int p1), (3, .int p0)]) dX1_moreUnits_1 rfl (Nat.le_of_ble_eq_true rfl) rfl ?_
  refine T_iconst (pc := 2) (v := 0) dX1_moreUnits_2 (by decide) ?_
  refine T_istore (pc := 3) (lv' := [(0, .ref 4), (1, .int p0), (2, .int p1), (3, .int p0), (4, .int (0 : Int32))]) dX1_moreUnits_3 (Nat.le_of_ble_eq_true rfl) rfl ?_
  refine T_pick (lv' := [(0, .ref 4), (2, .int p1), (3, .int p0), (4, .int (0 : Int32))]) [0, 2, 3, 4] rfl ?_
  exact fX1_moreUnits_P5_T d rec hrec p1 σ p0 (0 : Int32)
set_option maxRecDepth 100000 in
set_option maxHeartbeats 4000000 in
theorem fX1_moreTruths_L5_T (d : Nat) (rec : St → Int32 → Option (Bool × St)) (hrec : ∀ (σ : St) (p0 : Int32), Ct yX1_unit (kX1_unit d) [.ref 4, .int p0] σ cSz (rec σ p0)) (v2 : Int32) (σ : St) {kb : St → Int32 → Int32 → Option (Bool × St)} (hkb : ∀ (σ' : St) (w3 : Int32) (w4 : Int32), T (kX1_moreTruths d) cSz σ' 5 [(0, .ref 4), (2, .int v2), (3, .int w3), (4, .int w4)] [] (kb σ' w3 w4)) (v3 : Int32) (v4 : Int32) : T (kX1_moreTruths d) cSz σ 5 [(0, .ref 4), (2, .int v2), (3, .int v3), (4, .int v4)] [] (fX1_moreTruths_L5 rec v2 kb σ v3 v4) := by
  unfold fX1_moreTruths_L5
  refine T_iload (pc := 5) 3 dX1_moreTruths_5 rfl ?_
  refine T_sipush (pc := 7) (v := 200) dX1_moreTruths_7 (by decide) ?_
  refine T_icmp_ge (pc := 10) 41 dX1_moreTruths_10 (by decide) (fun _ => ?_) (fun _ => ?_)
  · refine T_iload_n (pc := 41) 2 dX1_moreTruths_41 rfl rfl ?_
    exact T_zretS (pc := 42) rfl dX1_moreTruths_42
  · refine T_aload_n (pc := 13) 0 dX1_moreTruths_13 rfl rfl ?_
    refine T_bipush (pc := 14) (v := 124) dX1_moreTruths_14 (by decide) ?_
    refine T_callSz (pc := 16) (rest := []) (Rn_U (pc := 16) (x := ⟨"CueRolls$Habits", "takes", "(I)Z"⟩) (as := [.int (124 : Int32)]) (rest := []) (ctX5_takes_h σ (124 : Int32)) rfl rfl mu_X1_X1_X5_takes hw658 rfl rfl ⟨by simp only [kX5_takes_h, kX1_moreTruths]; omega, by simp only [kX5_takes_h, kX1_moreTruths]; omega⟩ (Nat.le_of_ble_eq_true rfl) dX1_moreTruths_16 rfl) rfl (fun r1 => ?_)
    refine T_if_eq (pc := 19) 41 dX1_moreTruths_19 (by decide) (fun _ => ?_) (fun _ => ?_)
    · refine T_iload_n (pc := 41) 2 dX1_moreTruths_41 rfl rfl ?_
      exact T_zretS (pc := 42) rfl dX1_moreTruths_42
    · refine T_iload_n (pc := 22) 2 dX1_moreTruths_22 rfl rfl ?_
      refine T_aload_n (pc := 23) 0 dX1_moreTruths_23 rfl rfl ?_
      refine T_aload_n (pc := 24) 0 dX1_moreTruths_24 rfl rfl ?_
      refine T_iload_n (pc := 25) 1 dX1_moreTruths_25 rfl rfl ?_
      refine T_callSz (pc := 26) (rest := [.ref 4, .int v3]) (Rn_V (pc := 26) (as := [.int v2]) (rest := [.ref 4, .int v3]) (hrec r1.2 v2) rfl rfl mv_X1_unit hw654 rfl ⟨by simp only [kX1_unit, kX1_moreTruths]; omega, by simp only [kX1_unit, kX1_moreTruths]; omega⟩ (Nat.le_of_ble_eq_true rfl) dX1_moreTruths_26 rfl) rfl (fun r2 => ?_)
      refine T_iload_n (pc := 29) 1 dX1_moreTruths_29 rfl rfl ?_
      refine T_callSz (pc := 30) (rest := [.int v3]) (Rn_V (pc := 30) (as := [.int (bi r2.1), .int v2]) (rest := [.int v3]) (ctX1_moreUnits_B d rec hrec r2.2 (bi r2.1) v2) rfl rfl mv_X1_moreUnits hw668 rfl ⟨by simp only [kX1_moreUnits, kX1_moreTruths]; omega, by simp only [kX1_moreUnits, kX1_moreTruths]; omega⟩ (Nat.le_of_ble_eq_true rfl) dX1_moreTruths_30 rfl) rfl (fun r3 => ?_)
      refine T_ior (pc := 33) dX1_moreTruths_33 ?_
      refine T_letI (fun x4 => ?_)
      refine T_istore_n (pc := 34) (lv' := [(0, .ref 4), (2, .int v2), (3, .int x4), (4, .int v4)]) dX1_moreTruths_34 rfl (Nat.le_of_ble_eq_true rfl) rfl ?_
      refine T_iinc (pc := 35) (y := 1) (lv' := [(0, .ref 4), (2, .int v2), (3, .int x4), (4, .int (v4 + (1 : Int32)))]) 3 dX1_moreTruths_35 (by decide) rfl (Nat.le_of_ble_eq_true rfl) rfl ?_
      refine T_goto (pc := 38) 5 dX1_moreTruths_38 (by decide) ?_
      exact hkb r3.2 x4 (v4 + (1 : Int32))
set_option maxRecDepth 100000 in
set_option maxHeartbeats 4000000 in
theorem fX1_moreTruths_P5_T (d : Nat) (rec : St → Int32 → Option (Bool × St)) (hrec : ∀ (σ : St) (p0 : Int32), Ct yX1_unit (kX1_unit d) [.ref 4, .int p0] σ cSz (rec σ p0)) (v2 : Int32) (σ : St) (v3 : Int32) (v4 : Int32) : T (kX1_moreTruths d) cSz σ 5 [(0, .ref 4), (2, .int v2), (3, .int v3), (4, .int v4)] [] (fX1_moreTruths_P5 rec v2 σ v3 v4) :=
  it_T (S := (fun t : St × Int32 × Int32 => t.1)) (lv := fun t : St × Int32 × Int32 => [(0, .ref 4), (2, .int v2), (3, .int t.2.1), (4, .int t.2.2)]) (st := fun _ => []) (fun kb hkb t => fX1_moreTruths_L5_T d rec hrec v2 (hkb := fun σ v3 v4 => hkb (σ, v3, v4)) t.1 t.2.1 t.2.2) FU (σ, v3, v4)
set_option maxRecDepth 100000 in
set_option maxHeartbeats 4000000 in
theorem ctX1_moreTruths_B (d : Nat) (rec : St → Int32 → Option (Bool × St)) (hrec : ∀ (σ : St) (p0 : Int32), Ct yX1_unit (kX1_unit d) [.ref 4, .int p0] σ cSz (rec σ p0)) (σ : St) (p0 : Int32) (p1 : Int32) : Ct yX1_moreTruths (kX1_moreTruths d) [.ref 4, .int p0, .int p1] σ cSz (fX1_moreTruths_B rec σ p0 p1) := by
  refine Ct.of (by decide +kernel) rfl rfl (Nat.le_of_ble_eq_true rfl) ?_
  unfold fX1_moreTruths_B
  show T _ _ _ 0 [(0, .ref 4), (1, .int p0), (2, .int p1)] [] _
  refine T_iload_n (pc := 0) 1 dX1_moreTruths_0 rfl rfl ?_
  refine T_istore_n (pc := 1) (lv' := [(0, .ref 4), (1, .int p0), (2, .int p1), (3, .int p0)]) dX1_moreTruths_1 rfl (Nat.le_of_ble_eq_true rfl) rfl ?_
  refine T_iconst (pc := 2) (v := 0) dX1_moreTruths_2 (by decide) ?_
  refine T_istore (pc := 3) (lv' := [(0, .ref 4), (1, .int p0), (2, .int p1), (3, .int p0), (4, .int (0 : Int32))]) dX1_moreTruths_3 (Nat.le_of_ble_eq_true rfl) rfl ?_
  refine T_pick (lv' := [(0, .ref 4), (2, .int p1), (3, .int p0), (4, .int (0 : Int32))]) [0, 2, 3, 4] rfl ?_
  exact fX1_moreTruths_P5_T d rec hrec p1 σ p0 (0 : Int32)
set_option maxRecDepth 100000 in
set_option maxHeartbeats 4000000 in
theorem ctX1_condition_B (d : Nat) (rec : St → Int32 → Option (Bool × St)) (hrec : ∀ (σ : St) (p0 : Int32), Ct yX1_unit (kX1_unit d) [.ref 4, .int p0] σ cSz (rec σ p0)) (σ : St) (p0 : Int32) : Ct yX1_condition (kX1_condition d) [.ref 4, .int p0] σ cSz (fX1_condition_B rec σ p0) := by
  refine Ct.of (by decide +kernel) rfl rfl (Nat.le_of_ble_eq_true rfl) ?_
  unfold fX1_condition_B
  show T _ _ _ 0 [(0, .ref 4), (1, .int p0)] [] _
  refine T_aload_n (pc := 0) 0 dX1_condition_0 rfl rfl ?_
  refine T_aload_n (pc := 1) 0 dX1_condition_1 rfl rfl ?_
  refine T_aload_n (pc := 2) 0 dX1_condition_2 rfl rfl ?_
  refine T_iload_n (pc := 3) 1 dX1_condition_3 rfl rfl ?_
  refine T_callSz (pc := 4) (rest := [.ref 4, .ref 4]) (Rn_V (pc := 4) (as := [.int p0]) (rest := [.ref 4, .ref 4]) (hrec σ p0) rfl rfl mv_X1_unit hw654 rfl ⟨by simp only [kX1_unit, kX1_condition]; omega, by simp only [kX1_unit, kX1_condition]; omega⟩ (Nat.le_of_ble_eq_true rfl) dX1_condition_4 rfl) rfl (fun r1 => ?_)
  refine T_iload_n (pc := 7) 1 dX1_condition_7 rfl rfl ?_
  refine T_callSz (pc := 8) (rest := [.ref 4]) (Rn_V (pc := 8) (as := [.int (bi r1.1), .int p0]) (rest := [.ref 4]) (ctX1_moreUnits_B d rec hrec r1.2 (bi r1.1) p0) rfl rfl mv_X1_moreUnits hw668 rfl ⟨by simp only [kX1_moreUnits, kX1_condition]; omega, by simp only [kX1_moreUnits, kX1_condition]; omega⟩ (Nat.le_of_ble_eq_true rfl) dX1_condition_8 rfl) rfl (fun r2 => ?_)
  refine T_iload_n (pc := 11) 1 dX1_condition_11 rfl rfl ?_
  refine T_callSz (pc := 12) (rest := []) (Rn_V (pc := 12) (as := [.int (bi r2.1), .int p0]) (rest := []) (ctX1_moreTruths_B d rec hrec r2.2 (bi r2.1) p0) rfl rfl mv_X1_moreTruths hw672 rfl ⟨by simp only [kX1_moreTruths, kX1_condition]; omega, by simp only [kX1_moreTruths, kX1_condition]; omega⟩ (Nat.le_of_ble_eq_true rfl) dX1_condition_12 rfl) rfl (fun r3 => ?_)
  exact T_zreturn (pc := 15) r3.1 rfl dX1_condition_15 rfl rfl
set_option maxRecDepth 100000 in
set_option maxHeartbeats 4000000 in
theorem fX1_unit_L7_T (d : Nat) (rec : St → Int32 → Option (Bool × St)) (hrec : ∀ (σ : St) (p0 : Int32), Ct yX1_unit (kX1_unit d) [.ref 4, .int p0] σ cSz (rec σ p0)) (σ : St) {k1 : St → Int32 → Int32 → Option (Bool × St)} {kb : St → Int32 → Int32 → Int32 → Option (Bool × St)} (hk1 : ∀ (σ' : St) (w2 : Int32) (w3 : Int32), T (kX1_unit (d + 1)) cSz σ' 42 [(0, .ref 4), (2, .int w2), (3, .int w3)] [] (k1 σ' w2 w3)) (hkb : ∀ (σ' : St) (w2 : Int32) (w3 : Int32) (w4 : Int32), T (kX1_unit (d + 1)) cSz σ' 7 [(0, .ref 4), (2, .int w2), (3, .int w3), (4, .int w4)] [] (kb σ' w2 w3 w4)) (v2 : Int32) (v3 : Int32) (v4 : Int32) : T (kX1_unit (d + 1)) cSz σ 7 [(0, .ref 4), (2, .int v2), (3, .int v3), (4, .int v4)] [] (fX1_unit_L7 rec k1 kb σ v2 v3 v4) := by
  unfold fX1_unit_L7
  refine T_iload (pc := 7) 3 dX1_unit_7 rfl ?_
  refine T_bipush (pc := 9) (v := 6) dX1_unit_9 (by decide) ?_
  refine T_icmp_ge (pc := 11) 42 dX1_unit_11 (by decide) (fun _ => ?_) (fun _ => ?_)
  · refine T_pick (lv' := [(0, .ref 4), (2, .int v2), (3, .int v3)]) [0, 1, 2] rfl ?_
    exact hk1 σ v2 v3
  · refine T_aload_n (pc := 14) 0 dX1_unit_14 rfl rfl ?_
    refine T_bipush (pc := 15) (v := 33) dX1_unit_15 (by decide) ?_
    refine T_callSz (pc := 17) (rest := []) (Rn_U (pc := 17) (x := ⟨"CueRolls$Habits", "takes", "(I)Z"⟩) (as := [.int (33 : Int32)]) (rest := []) (ctX5_takes_h σ (33 : Int32)) rfl rfl mu_X1_X1_X5_takes hw658 rfl rfl ⟨by simp only [kX5_takes_h, kX1_unit]; omega, by simp only [kX5_takes_h, kX1_unit]; omega⟩ (Nat.le_of_ble_eq_true rfl) dX1_unit_17 rfl) rfl (fun r1 => ?_)
    refine T_if_eq (pc := 20) 42 dX1_unit_20 (by decide) (fun _ => ?_) (fun _ => ?_)
    · refine T_pick (lv' := [(0, .ref 4), (2, .int v2), (3, .int v3)]) [0, 1, 2] rfl ?_
      exact hk1 r1.2 v2 v3
    · refine T_iload_n (pc := 23) 1 dX1_unit_23 rfl rfl ?_
      refine T_if_ne (pc := 24) 31 dX1_unit_24 (by decide) (fun _ => ?_) (fun _ => ?_)
      · refine T_iconst (pc := 31) (v := 0) dX1_unit_31 (by decide) ?_
        refine T_istore_n (pc := 32) (lv' := [(0, .ref 4), (2, .int (0 : Int32)), (3, .int v3), (4, .int v4)]) dX1_unit_32 rfl (Nat.le_of_ble_eq_true rfl) rfl ?_
        refine T_iinc (pc := 33) (y := 1) (lv' := [(0, .ref 4), (2, .int (0 : Int32)), (3, .int (v3 + (1 : Int32))), (4, .int v4)]) 2 dX1_unit_33 (by decide) rfl (Nat.le_of_ble_eq_true rfl) rfl ?_
        refine T_iinc (pc := 36) (y := 1) (lv' := [(0, .ref 4), (2, .int (0 : Int32)), (3, .int (v3 + (1 : Int32))), (4, .int (v4 + (1 : Int32)))]) 3 dX1_unit_36 (by decide) rfl (Nat.le_of_ble_eq_true rfl) rfl ?_
        refine T_goto (pc := 39) 7 dX1_unit_39 (by decide) ?_
        exact hkb r1.2 (0 : Int32) (v3 + (1 : Int32)) (v4 + (1 : Int32))
      · refine T_iconst (pc := 27) (v := 1) dX1_unit_27 (by decide) ?_
        refine T_goto (pc := 28) 32 dX1_unit_28 (by decide) ?_
        refine T_istore_n (pc := 32) (lv' := [(0, .ref 4), (2, .int (1 : Int32)), (3, .int v3), (4, .int v4)]) dX1_unit_32 rfl (Nat.le_of_ble_eq_true rfl) rfl ?_
        refine T_iinc (pc := 33) (y := 1) (lv' := [(0, .ref 4), (2, .int (1 : Int32)), (3, .int (v3 + (1 : Int32))), (4, .int v4)]) 2 dX1_unit_33 (by decide) rfl (Nat.le_of_ble_eq_true rfl) rfl ?_
        refine T_iinc (pc := 36) (y := 1) (lv' := [(0, .ref 4), (2, .int (1 : Int32)), (3, .int (v3 + (1 : Int32))), (4, .int (v4 + (1 : Int32)))]) 3 dX1_unit_36 (by decide) rfl (Nat.le_of_ble_eq_true rfl) rfl ?_
        refine T_goto (pc := 39) 7 dX1_unit_39 (by decide) ?_
        exact hkb r1.2 (1 : Int32) (v3 + (1 : Int32)) (v4 + (1 : Int32))
set_option maxRecDepth 100000 in
set_option maxHeartbeats 4000000 in
theorem fX1_unit_P7_T (d : Nat) (rec : St → Int32 → Option (Bool × St)) (hrec : ∀ (σ : St) (p0 : Int32), Ct yX1_unit (kX1_unit d) [.ref 4, .int p0] σ cSz (rec σ p0)) (σ : St) {k1 : St → Int32 → Int32 → Option (Bool × St)} (hk1 : ∀ (σ' : St) (w2 : Int32) (w3 : Int32), T (kX1_unit (d + 1)) cSz σ' 42 [(0, .ref 4), (2, .int w2), (3, .int w3)] [] (k1 σ' w2 w3)) (v2 : Int32) (v3 : Int32) (v4 : Int32) : T (kX1_unit (d + 1)) cSz σ 7 [(0, .ref 4), (2, .int v2), (3, .int v3), (4, .int v4)] [] (fX1_unit_P7 rec k1 σ v2 v3 v4) :=
  it_T (S := (fun t : St × Int32 × Int32 × Int32 => t.1)) (lv := fun t : St × Int32 × Int32 × Int32 => [(0, .ref 4), (2, .int t.2.1), (3, .int t.2.2.1), (4, .int t.2.2.2)]) (st := fun _ => []) (fun kb hkb t => fX1_unit_L7_T d rec hrec (hk1 := hk1) (hkb := fun σ v2 v3 v4 => hkb (σ, v2, v3, v4)) t.1 t.2.1 t.2.2.1 t.2.2.2) FU (σ, v2, v3, v4)
set_option maxRecDepth 100000 in
set_option maxHeartbeats 4000000 in
theorem fX1_unit_J42_T (d : Nat) (rec : St → Int32 → Option (Bool × St)) (hrec : ∀ (σ : St) (p0 : Int32), Ct yX1_unit (kX1_unit d) [.ref 4, .int p0] σ cSz (rec σ p0)) (σ : St) (v2 : Int32) (v3 : Int32) : T (kX1_unit (d + 1)) cSz σ 42 [(0, .ref 4), (2, .int v2), (3, .int v3)] [] (fX1_unit_J42 rec σ v2 v3) := by
  unfold fX1_unit_J42
  refine T_iload_n (pc := 42) 2 dX1_unit_42 rfl rfl ?_
  refine T_bipush (pc := 43) (v := 6) dX1_unit_43 (by decide) ?_
  refine T_icmp_ge (pc := 45) 75 dX1_unit_45 (by decide) (fun _ => ?_) (fun _ => ?_)
  · refine T_aload_n (pc := 75) 0 dX1_unit_75 rfl rfl ?_
    refine T_aload_n (pc := 76) 0 dX1_unit_76 rfl rfl ?_
    refine T_iload_n (pc := 77) 2 dX1_unit_77 rfl rfl ?_
    refine T_callSi (pc := 78) (rest := [.ref 4]) (Rn_V (pc := 78) (as := [.int v3]) (rest := [.ref 4]) (ctX1_sum 8 σ v3) rfl rfl mv_X1_sum hw601 rfl ⟨by simp only [kX1_sum, kX1_unit]; omega, by simp only [kX1_sum, kX1_unit]; omega⟩ (Nat.le_of_ble_eq_true rfl) dX1_unit_78 rfl) rfl (fun r5 => ?_)
    refine T_iload_n (pc := 81) 2 dX1_unit_81 rfl rfl ?_
    refine T_callSz (pc := 82) (rest := []) (Rn_V (pc := 82) (as := [.int r5.1, .int v3]) (rest := []) (ctX1_compared r5.2 r5.1 v3) rfl rfl mv_X1_compared hw664 rfl ⟨by simp only [kX1_compared, kX1_unit]; omega, by simp only [kX1_compared, kX1_unit]; omega⟩ (Nat.le_of_ble_eq_true rfl) dX1_unit_82 rfl) rfl (fun r6 => ?_)
    refine T_istore (pc := 85) (lv' := [(0, .ref 4), (2, .int v2), (3, .int v3), (4, .int (bi r6.1))]) dX1_unit_85 (Nat.le_of_ble_eq_true rfl) rfl ?_
    refine T_iload (pc := 87) 3 dX1_unit_87 rfl ?_
    refine T_iload_n (pc := 89) 1 dX1_unit_89 rfl rfl ?_
    refine T_icmp_eq (pc := 90) 97 dX1_unit_90 (by decide) (fun _ => ?_) (fun _ => ?_)
    · refine T_iconst (pc := 97) (v := 0) dX1_unit_97 (by decide) ?_
      exact T_zreturn (pc := 98) false rfl dX1_unit_98 rfl rfl
    · refine T_iconst (pc := 93) (v := 1) dX1_unit_93 (by decide) ?_
      refine T_goto (pc := 94) 98 dX1_unit_94 (by decide) ?_
      exact T_zreturn (pc := 98) true rfl dX1_unit_98 rfl rfl
  · refine T_aload_n (pc := 48) 0 dX1_unit_48 rfl rfl ?_
    refine T_bipush (pc := 49) (v := 40) dX1_unit_49 (by decide) ?_
    refine T_callSz (pc := 51) (rest := []) (Rn_U (pc := 51) (x := ⟨"CueRolls$Habits", "takes", "(I)Z"⟩) (as := [.int (40 : Int32)]) (rest := []) (ctX5_takes_h σ (40 : Int32)) rfl rfl mu_X1_X1_X5_takes hw658 rfl rfl ⟨by simp only [kX5_takes_h, kX1_unit]; omega, by simp only [kX5_takes_h, kX1_unit]; omega⟩ (Nat.le_of_ble_eq_true rfl) dX1_unit_51 rfl) rfl (fun r7 => ?_)
    refine T_if_eq (pc := 54) 75 dX1_unit_54 (by decide) (fun _ => ?_) (fun _ => ?_)
    · refine T_aload_n (pc := 75) 0 dX1_unit_75 rfl rfl ?_
      refine T_aload_n (pc := 76) 0 dX1_unit_76 rfl rfl ?_
      refine T_iload_n (pc := 77) 2 dX1_unit_77 rfl rfl ?_
      refine T_callSi (pc := 78) (rest := [.ref 4]) (Rn_V (pc := 78) (as := [.int v3]) (rest := [.ref 4]) (ctX1_sum 8 r7.2 v3) rfl rfl mv_X1_sum hw601 rfl ⟨by simp only [kX1_sum, kX1_unit]; omega, by simp only [kX1_sum, kX1_unit]; omega⟩ (Nat.le_of_ble_eq_true rfl) dX1_unit_78 rfl) rfl (fun r8 => ?_)
      refine T_iload_n (pc := 81) 2 dX1_unit_81 rfl rfl ?_
      refine T_callSz (pc := 82) (rest := []) (Rn_V (pc := 82) (as := [.int r8.1, .int v3]) (rest := []) (ctX1_compared r8.2 r8.1 v3) rfl rfl mv_X1_compared hw664 rfl ⟨by simp only [kX1_compared, kX1_unit]; omega, by simp only [kX1_compared, kX1_unit]; omega⟩ (Nat.le_of_ble_eq_true rfl) dX1_unit_82 rfl) rfl (fun r9 => ?_)
      refine T_istore (pc := 85) (lv' := [(0, .ref 4), (2, .int v2), (3, .int v3), (4, .int (bi r9.1))]) dX1_unit_85 (Nat.le_of_ble_eq_true rfl) rfl ?_
      refine T_iload (pc := 87) 3 dX1_unit_87 rfl ?_
      refine T_iload_n (pc := 89) 1 dX1_unit_89 rfl rfl ?_
      refine T_icmp_eq (pc := 90) 97 dX1_unit_90 (by decide) (fun _ => ?_) (fun _ => ?_)
      · refine T_iconst (pc := 97) (v := 0) dX1_unit_97 (by decide) ?_
        exact T_zreturn (pc := 98) false rfl dX1_unit_98 rfl rfl
      · refine T_iconst (pc := 93) (v := 1) dX1_unit_93 (by decide) ?_
        refine T_goto (pc := 94) 98 dX1_unit_94 (by decide) ?_
        exact T_zreturn (pc := 98) true rfl dX1_unit_98 rfl rfl
    · refine T_aload_n (pc := 57) 0 dX1_unit_57 rfl rfl ?_
      refine T_iload_n (pc := 58) 2 dX1_unit_58 rfl rfl ?_
      refine T_iconst (pc := 59) (v := 1) dX1_unit_59 (by decide) ?_
      refine T_iadd (pc := 60) dX1_unit_60 ?_
      refine T_callSz (pc := 61) (rest := []) (Rn_V (pc := 61) (as := [.int (v3 + (1 : Int32))]) (rest := []) (ctX1_condition_B d rec hrec r7.2 (v3 + (1 : Int32))) rfl rfl mv_X1_condition hw650 rfl ⟨by simp only [kX1_condition, kX1_unit]; omega, by simp only [kX1_condition, kX1_unit]; omega⟩ (Nat.le_of_ble_eq_true rfl) dX1_unit_61 rfl) rfl (fun r10 => ?_)
      refine T_istore (pc := 64) (lv' := [(0, .ref 4), (2, .int v2), (3, .int v3), (4, .int (bi r10.1))]) dX1_unit_64 (Nat.le_of_ble_eq_true rfl) rfl ?_
      refine T_aload_n (pc := 66) 0 dX1_unit_66 rfl rfl ?_
      refine T_bipush (pc := 67) (v := 41) dX1_unit_67 (by decide) ?_
      refine T_callSv (pc := 69) (rest := []) (Rn_U (pc := 69) (x := ⟨"CueRolls$Habits", "needs", "(I)V"⟩) (as := [.int (41 : Int32)]) (rest := []) (ctX5_needs_h r10.2 (41 : Int32)) rfl rfl mu_X1_X1_X5_needs hw577 rfl rfl ⟨by simp only [kX5_needs_h, kX1_unit]; omega, by simp only [kX5_needs_h, kX1_unit]; omega⟩ (Nat.le_of_ble_eq_true rfl) dX1_unit_69 rfl) rfl (fun s11 => ?_)
      refine T_goto (pc := 72) 87 dX1_unit_72 (by decide) ?_
      refine T_iload (pc := 87) 3 dX1_unit_87 rfl ?_
      refine T_iload_n (pc := 89) 1 dX1_unit_89 rfl rfl ?_
      refine T_icmp_eq (pc := 90) 97 dX1_unit_90 (by decide) (fun _ => ?_) (fun _ => ?_)
      · refine T_iconst (pc := 97) (v := 0) dX1_unit_97 (by decide) ?_
        exact T_zreturn (pc := 98) false rfl dX1_unit_98 rfl rfl
      · refine T_iconst (pc := 93) (v := 1) dX1_unit_93 (by decide) ?_
        refine T_goto (pc := 94) 98 dX1_unit_94 (by decide) ?_
        exact T_zreturn (pc := 98) true rfl dX1_unit_98 rfl rfl
set_option maxRecDepth 100000 in
set_option maxHeartbeats 4000000 in
theorem ctX1_unit_B (d : Nat) (rec : St → Int32 → Option (Bool × St)) (hrec : ∀ (σ : St) (p0 : Int32), Ct yX1_unit (kX1_unit d) [.ref 4, .int p0] σ cSz (rec σ p0)) (σ : St) (p0 : Int32) : Ct yX1_unit (kX1_unit (d + 1)) [.ref 4, .int p0] σ cSz (fX1_unit_B rec σ p0) := by
  refine Ct.of (by decide +kernel) rfl rfl (Nat.le_of_ble_eq_true rfl) ?_
  unfold fX1_unit_B
  show T _ _ _ 0 [(0, .ref 4), (1, .int p0)] [] _
  refine T_iconst (pc := 0) (v := 0) dX1_unit_0 (by decide) ?_
  refine T_istore_n (pc := 1) (lv' := [(0, .ref 4), (1, .int p0), (2, .int (0 : Int32))]) dX1_unit_1 rfl (Nat.le_of_ble_eq_true rfl) rfl ?_
  refine T_iload_n (pc := 2) 1 dX1_unit_2 rfl rfl ?_
  refine T_istore_n (pc := 3) (lv' := [(0, .ref 4), (1, .int p0), (2, .int (0 : Int32)), (3, .int p0)]) dX1_unit_3 rfl (Nat.le_of_ble_eq_true rfl) rfl ?_
  refine T_iload_n (pc := 4) 1 dX1_unit_4 rfl rfl ?_
  refine T_istore (pc := 5) (lv' := [(0, .ref 4), (1, .int p0), (2, .int (0 : Int32)), (3, .int p0), (4, .int p0)]) dX1_unit_5 (Nat.le_of_ble_eq_true rfl) rfl ?_
  refine T_pick (lv' := [(0, .ref 4), (2, .int (0 : Int32)), (3, .int p0), (4, .int p0)]) [0, 2, 3, 4] rfl ?_
  refine fX1_unit_P7_T d rec hrec (hk1 := fun s2 x3 x4 => ?_) σ (0 : Int32) p0 p0
  · exact fX1_unit_J42_T d rec hrec s2 x3 x4
theorem ctX1_unit : ∀ (d : Nat) (σ : St) (p0 : Int32), Ct yX1_unit (kX1_unit d) [.ref 4, .int p0] σ cSz (fX1_unit d σ p0)
  | 0, _, _ => fun _ h => by cases h
  | d + 1, σ, p0 => ctX1_unit_B d (fX1_unit d) (ctX1_unit d) σ p0
theorem ctX1_moreUnits (d : Nat) (σ : St) (p0 : Int32) (p1 : Int32) : Ct yX1_moreUnits (kX1_moreUnits d) [.ref 4, .int p0, .int p1] σ cSz (fX1_moreUnits d σ p0 p1) := ctX1_moreUnits_B d (fX1_unit d) (ctX1_unit d) σ p0 p1
theorem ctX1_moreTruths (d : Nat) (σ : St) (p0 : Int32) (p1 : Int32) : Ct yX1_moreTruths (kX1_moreTruths d) [.ref 4, .int p0, .int p1] σ cSz (fX1_moreTruths d σ p0 p1) := ctX1_moreTruths_B d (fX1_unit d) (ctX1_unit d) σ p0 p1
theorem ctX1_condition (d : Nat) (σ : St) (p0 : Int32) : Ct yX1_condition (kX1_condition d) [.ref 4, .int p0] σ cSz (fX1_condition d σ p0) := ctX1_condition_B d (fX1_unit d) (ctX1_unit d) σ p0
set_option maxRecDepth 100000 in
set_option maxHeartbeats 4000000 in
theorem fX1_takeAll_J93_T (σ : St) (v1 : Int32) (v3 : Int32) (v4 : Int32) (v5 : Int32) {kb : St → Int32 → Int32 → Int32 → Option St} (hkb : ∀ (σ' : St) (w1 : Int32) (w2 : Int32) (w3 : Int32), T kX1_takeAll cSv σ' 11 [(0, .ref 4), (1, .int w1), (2, .int w2), (3, .int w3)] [] (kb σ' w1 w2 w3)) : T kX1_takeAll cSv σ 93 [(0, .ref 4), (1, .int v1), (3, .int v3), (4, .int v4), (5, .int v5)] [] (fX1_takeAll_J93 kb σ v1 v3 v4 v5) := by
  unfold fX1_takeAll_J93
  refine T_iload (pc := 93) 3 dX1_takeAll_93 rfl ?_
  refine T_if_eq (pc := 95) 106 dX1_takeAll_95 (by decide) (fun _ => ?_) (fun _ => ?_)
  · refine T_aload_n (pc := 106) 0 dX1_takeAll_106 rfl rfl ?_
    refine T_aload_n (pc := 107) 0 dX1_takeAll_107 rfl rfl ?_
    refine T_aload_n (pc := 108) 0 dX1_takeAll_108 rfl rfl ?_
    refine T_iload (pc := 109) 4 dX1_takeAll_109 rfl ?_
    refine T_iconst (pc := 111) (v := 0) dX1_takeAll_111 (by decide) ?_
    refine T_callSz (pc := 112) (rest := [.ref 4, .ref 4]) (Rn_V (pc := 112) (as := [.int v5, .int (0 : Int32)]) (rest := [.ref 4, .ref 4]) (ctX1_compared σ v5 (0 : Int32)) rfl rfl mv_X1_compared hw664 rfl ⟨Nat.le_of_ble_eq_true rfl, Nat.le_of_ble_eq_true rfl⟩ (Nat.le_of_ble_eq_true rfl) dX1_takeAll_112 rfl) rfl (fun r6 => ?_)
    refine T_iconst (pc := 115) (v := 0) dX1_takeAll_115 (by decide) ?_
    refine T_callSz (pc := 116) (rest := [.ref 4]) (Rn_V (pc := 116) (as := [.int (bi r6.1), .int (0 : Int32)]) (rest := [.ref 4]) (ctX1_moreUnits 8 r6.2 (bi r6.1) (0 : Int32)) rfl rfl mv_X1_moreUnits hw668 rfl ⟨Nat.le_of_ble_eq_true rfl, Nat.le_of_ble_eq_true rfl⟩ (Nat.le_of_ble_eq_true rfl) dX1_takeAll_116 rfl) rfl (fun r7 => ?_)
    refine T_iconst (pc := 119) (v := 0) dX1_takeAll_119 (by decide) ?_
    refine T_callSz (pc := 120) (rest := []) (Rn_V (pc := 120) (as := [.int (bi r7.1), .int (0 : Int32)]) (rest := []) (ctX1_moreTruths 8 r7.2 (bi r7.1) (0 : Int32)) rfl rfl mv_X1_moreTruths hw672 rfl ⟨Nat.le_of_ble_eq_true rfl, Nat.le_of_ble_eq_true rfl⟩ (Nat.le_of_ble_eq_true rfl) dX1_takeAll_120 rfl) rfl (fun r8 => ?_)
    refine T_istore (pc := 123) (lv' := [(0, .ref 4), (1, .int v1), (3, .int v3), (4, .int v4), (5, .int v5), (6, .int (bi r8.1))]) dX1_takeAll_123 (Nat.le_of_ble_eq_true rfl) rfl ?_
    refine T_aload_n (pc := 125) 0 dX1_takeAll_125 rfl rfl ?_
    refine T_bipush (pc := 126) (v := 63) dX1_takeAll_126 (by decide) ?_
    refine T_callSv (pc := 128) (rest := []) (Rn_U (pc := 128) (x := ⟨"CueRolls$Habits", "needs", "(I)V"⟩) (as := [.int (63 : Int32)]) (rest := []) (ctX5_needs_h r8.2 (63 : Int32)) rfl rfl mu_X1_X1_X5_needs hw577 rfl rfl ⟨Nat.le_of_ble_eq_true rfl, Nat.le_of_ble_eq_true rfl⟩ (Nat.le_of_ble_eq_true rfl) dX1_takeAll_128 rfl) rfl (fun s9 => ?_)
    refine T_aload_n (pc := 131) 0 dX1_takeAll_131 rfl rfl ?_
    refine T_iconst (pc := 132) (v := 0) dX1_takeAll_132 (by decide) ?_
    refine T_callSi (pc := 133) (rest := []) (Rn_V (pc := 133) (as := [.int (0 : Int32)]) (rest := []) (ctX1_sum 8 s9 (0 : Int32)) rfl rfl mv_X1_sum hw601 rfl ⟨Nat.le_of_ble_eq_true rfl, Nat.le_of_ble_eq_true rfl⟩ (Nat.le_of_ble_eq_true rfl) dX1_takeAll_133 rfl) rfl (fun r10 => ?_)
    refine T_istore (pc := 136) (lv' := [(0, .ref 4), (1, .int v1), (3, .int v3), (4, .int v4), (5, .int r10.1), (6, .int (bi r8.1))]) dX1_takeAll_136 (Nat.le_of_ble_eq_true rfl) rfl ?_
    refine T_iload (pc := 138) 5 dX1_takeAll_138 rfl ?_
    refine T_if_eq (pc := 140) 155 dX1_takeAll_140 (by decide) (fun _ => ?_) (fun _ => ?_)
    · refine T_aload_n (pc := 155) 0 dX1_takeAll_155 rfl rfl ?_
      refine T_bipush (pc := 156) (v := 59) dX1_takeAll_156 (by decide) ?_
      refine T_callSz (pc := 158) (rest := []) (Rn_U (pc := 158) (x := ⟨"CueRolls$Habits", "takes", "(I)Z"⟩) (as := [.int (59 : Int32)]) (rest := []) (ctX5_takes_h r10.2 (59 : Int32)) rfl rfl mu_X1_X1_X5_takes hw658 rfl rfl ⟨Nat.le_of_ble_eq_true rfl, Nat.le_of_ble_eq_true rfl⟩ (Nat.le_of_ble_eq_true rfl) dX1_takeAll_158 rfl) rfl (fun r11 => ?_)
      refine T_istore_n (pc := 161) (lv' := [(0, .ref 4), (1, .int v1), (2, .int (bi r11.1)), (3, .int v3), (4, .int v4), (5, .int r10.1), (6, .int (bi r8.1))]) dX1_takeAll_161 rfl (Nat.le_of_ble_eq_true rfl) rfl ?_
      refine T_iinc (pc := 162) (y := 1) (lv' := [(0, .ref 4), (1, .int v1), (2, .int (bi r11.1)), (3, .int (v3 + (1 : Int32))), (4, .int v4), (5, .int r10.1), (6, .int (bi r8.1))]) 3 dX1_takeAll_162 (by decide) rfl (Nat.le_of_ble_eq_true rfl) rfl ?_
      refine T_goto (pc := 165) 11 dX1_takeAll_165 (by decide) ?_
      refine T_pick (lv' := [(0, .ref 4), (1, .int v1), (2, .int (bi r11.1)), (3, .int (v3 + (1 : Int32)))]) [0, 1, 2, 3] rfl ?_
      exact hkb r11.2 v1 (bi r11.1) (v3 + (1 : Int32))
    · refine T_iload_n (pc := 143) 1 dX1_takeAll_143 rfl rfl ?_
      refine T_if_ne (pc := 144) 155 dX1_takeAll_144 (by decide) (fun _ => ?_) (fun _ => ?_)
      · refine T_aload_n (pc := 155) 0 dX1_takeAll_155 rfl rfl ?_
        refine T_bipush (pc := 156) (v := 59) dX1_takeAll_156 (by decide) ?_
        refine T_callSz (pc := 158) (rest := []) (Rn_U (pc := 158) (x := ⟨"CueRolls$Habits", "takes", "(I)Z"⟩) (as := [.int (59 : Int32)]) (rest := []) (ctX5_takes_h r10.2 (59 : Int32)) rfl rfl mu_X1_X1_X5_takes hw658 rfl rfl ⟨Nat.le_of_ble_eq_true rfl, Nat.le_of_ble_eq_true rfl⟩ (Nat.le_of_ble_eq_true rfl) dX1_takeAll_158 rfl) rfl (fun r12 => ?_)
        refine T_istore_n (pc := 161) (lv' := [(0, .ref 4), (1, .int v1), (2, .int (bi r12.1)), (3, .int v3), (4, .int v4), (5, .int r10.1), (6, .int (bi r8.1))]) dX1_takeAll_161 rfl (Nat.le_of_ble_eq_true rfl) rfl ?_
        refine T_iinc (pc := 162) (y := 1) (lv' := [(0, .ref 4), (1, .int v1), (2, .int (bi r12.1)), (3, .int (v3 + (1 : Int32))), (4, .int v4), (5, .int r10.1), (6, .int (bi r8.1))]) 3 dX1_takeAll_162 (by decide) rfl (Nat.le_of_ble_eq_true rfl) rfl ?_
        refine T_goto (pc := 165) 11 dX1_takeAll_165 (by decide) ?_
        refine T_pick (lv' := [(0, .ref 4), (1, .int v1), (2, .int (bi r12.1)), (3, .int (v3 + (1 : Int32)))]) [0, 1, 2, 3] rfl ?_
        exact hkb r12.2 v1 (bi r12.1) (v3 + (1 : Int32))
      · refine T_iconst (pc := 147) (v := 1) dX1_takeAll_147 (by decide) ?_
        refine T_istore_n (pc := 148) (lv' := [(0, .ref 4), (1, .int (1 : Int32)), (3, .int v3), (4, .int v4), (5, .int r10.1), (6, .int (bi r8.1))]) dX1_takeAll_148 rfl (Nat.le_of_ble_eq_true rfl) rfl ?_
        refine T_aload_n (pc := 149) 0 dX1_takeAll_149 rfl rfl ?_
        refine T_iload (pc := 150) 4 dX1_takeAll_150 rfl ?_
        refine T_putI (pc := 152) fd_4_12 hw296 dX1_takeAll_152 ?_
        refine T_letS (fun s13 => ?_)
        refine T_aload_n (pc := 155) 0 dX1_takeAll_155 rfl rfl ?_
        refine T_bipush (pc := 156) (v := 59) dX1_takeAll_156 (by decide) ?_
        refine T_callSz (pc := 158) (rest := []) (Rn_U (pc := 158) (x := ⟨"CueRolls$Habits", "takes", "(I)Z"⟩) (as := [.int (59 : Int32)]) (rest := []) (ctX5_takes_h s13 (59 : Int32)) rfl rfl mu_X1_X1_X5_takes hw658 rfl rfl ⟨Nat.le_of_ble_eq_true rfl, Nat.le_of_ble_eq_true rfl⟩ (Nat.le_of_ble_eq_true rfl) dX1_takeAll_158 rfl) rfl (fun r14 => ?_)
        refine T_istore_n (pc := 161) (lv' := [(0, .ref 4), (1, .int (1 : Int32)), (2, .int (bi r14.1)), (3, .int v3), (4, .int v4), (5, .int r10.1), (6, .int (bi r8.1))]) dX1_takeAll_161 rfl (Nat.le_of_ble_eq_true rfl) rfl ?_
        refine T_iinc (pc := 162) (y := 1) (lv' := [(0, .ref 4), (1, .int (1 : Int32)), (2, .int (bi r14.1)), (3, .int (v3 + (1 : Int32))), (4, .int v4), (5, .int r10.1), (6, .int (bi r8.1))]) 3 dX1_takeAll_162 (by decide) rfl (Nat.le_of_ble_eq_true rfl) rfl ?_
        refine T_goto (pc := 165) 11 dX1_takeAll_165 (by decide) ?_
        refine T_pick (lv' := [(0, .ref 4), (1, .int (1 : Int32)), (2, .int (bi r14.1)), (3, .int (v3 + (1 : Int32)))]) [0, 1, 2, 3] rfl ?_
        exact hkb r14.2 (1 : Int32) (bi r14.1) (v3 + (1 : Int32))
  · refine T_aload_n (pc := 98) 0 dX1_takeAll_98 rfl rfl ?_
    refine T_iconst (pc := 99) (v := 0) dX1_takeAll_99 (by decide) ?_
    refine T_callSz (pc := 100) (rest := []) (Rn_V (pc := 100) (as := [.int (0 : Int32)]) (rest := []) (ctX1_condition 8 σ (0 : Int32)) rfl rfl mv_X1_condition hw650 rfl ⟨Nat.le_of_ble_eq_true rfl, Nat.le_of_ble_eq_true rfl⟩ (Nat.le_of_ble_eq_true rfl) dX1_takeAll_100 rfl) rfl (fun r15 => ?_)
    refine T_goto (pc := 103) 123 dX1_takeAll_103 (by decide) ?_
    refine T_istore (pc := 123) (lv' := [(0, .ref 4), (1, .int v1), (3, .int v3), (4, .int v4), (5, .int v5), (6, .int (bi r15.1))]) dX1_takeAll_123 (Nat.le_of_ble_eq_true rfl) rfl ?_
    refine T_aload_n (pc := 125) 0 dX1_takeAll_125 rfl rfl ?_
    refine T_bipush (pc := 126) (v := 63) dX1_takeAll_126 (by decide) ?_
    refine T_callSv (pc := 128) (rest := []) (Rn_U (pc := 128) (x := ⟨"CueRolls$Habits", "needs", "(I)V"⟩) (as := [.int (63 : Int32)]) (rest := []) (ctX5_needs_h r15.2 (63 : Int32)) rfl rfl mu_X1_X1_X5_needs hw577 rfl rfl ⟨Nat.le_of_ble_eq_true rfl, Nat.le_of_ble_eq_true rfl⟩ (Nat.le_of_ble_eq_true rfl) dX1_takeAll_128 rfl) rfl (fun s16 => ?_)
    refine T_aload_n (pc := 131) 0 dX1_takeAll_131 rfl rfl ?_
    refine T_iconst (pc := 132) (v := 0) dX1_takeAll_132 (by decide) ?_
    refine T_callSi (pc := 133) (rest := []) (Rn_V (pc := 133) (as := [.int (0 : Int32)]) (rest := []) (ctX1_sum 8 s16 (0 : Int32)) rfl rfl mv_X1_sum hw601 rfl ⟨Nat.le_of_ble_eq_true rfl, Nat.le_of_ble_eq_true rfl⟩ (Nat.le_of_ble_eq_true rfl) dX1_takeAll_133 rfl) rfl (fun r17 => ?_)
    refine T_istore (pc := 136) (lv' := [(0, .ref 4), (1, .int v1), (3, .int v3), (4, .int v4), (5, .int r17.1), (6, .int (bi r15.1))]) dX1_takeAll_136 (Nat.le_of_ble_eq_true rfl) rfl ?_
    refine T_iload (pc := 138) 5 dX1_takeAll_138 rfl ?_
    refine T_if_eq (pc := 140) 155 dX1_takeAll_140 (by decide) (fun _ => ?_) (fun _ => ?_)
    · refine T_aload_n (pc := 155) 0 dX1_takeAll_155 rfl rfl ?_
      refine T_bipush (pc := 156) (v := 59) dX1_takeAll_156 (by decide) ?_
      refine T_callSz (pc := 158) (rest := []) (Rn_U (pc := 158) (x := ⟨"CueRolls$Habits", "takes", "(I)Z"⟩) (as := [.int (59 : Int32)]) (rest := []) (ctX5_takes_h r17.2 (59 : Int32)) rfl rfl mu_X1_X1_X5_takes hw658 rfl rfl ⟨Nat.le_of_ble_eq_true rfl, Nat.le_of_ble_eq_true rfl⟩ (Nat.le_of_ble_eq_true rfl) dX1_takeAll_158 rfl) rfl (fun r18 => ?_)
      refine T_istore_n (pc := 161) (lv' := [(0, .ref 4), (1, .int v1), (2, .int (bi r18.1)), (3, .int v3), (4, .int v4), (5, .int r17.1), (6, .int (bi r15.1))]) dX1_takeAll_161 rfl (Nat.le_of_ble_eq_true rfl) rfl ?_
      refine T_iinc (pc := 162) (y := 1) (lv' := [(0, .ref 4), (1, .int v1), (2, .int (bi r18.1)), (3, .int (v3 + (1 : Int32))), (4, .int v4), (5, .int r17.1), (6, .int (bi r15.1))]) 3 dX1_takeAll_162 (by decide) rfl (Nat.le_of_ble_eq_true rfl) rfl ?_
      refine T_goto (pc := 165) 11 dX1_takeAll_165 (by decide) ?_
      refine T_pick (lv' := [(0, .ref 4), (1, .int v1), (2, .int (bi r18.1)), (3, .int (v3 + (1 : Int32)))]) [0, 1, 2, 3] rfl ?_
      exact hkb r18.2 v1 (bi r18.1) (v3 + (1 : Int32))
    · refine T_iload_n (pc := 143) 1 dX1_takeAll_143 rfl rfl ?_
      refine T_if_ne (pc := 144) 155 dX1_takeAll_144 (by decide) (fun _ => ?_) (fun _ => ?_)
      · refine T_aload_n (pc := 155) 0 dX1_takeAll_155 rfl rfl ?_
        refine T_bipush (pc := 156) (v := 59) dX1_takeAll_156 (by decide) ?_
        refine T_callSz (pc := 158) (rest := []) (Rn_U (pc := 158) (x := ⟨"CueRolls$Habits", "takes", "(I)Z"⟩) (as := [.int (59 : Int32)]) (rest := []) (ctX5_takes_h r17.2 (59 : Int32)) rfl rfl mu_X1_X1_X5_takes hw658 rfl rfl ⟨Nat.le_of_ble_eq_true rfl, Nat.le_of_ble_eq_true rfl⟩ (Nat.le_of_ble_eq_true rfl) dX1_takeAll_158 rfl) rfl (fun r19 => ?_)
        refine T_istore_n (pc := 161) (lv' := [(0, .ref 4), (1, .int v1), (2, .int (bi r19.1)), (3, .int v3), (4, .int v4), (5, .int r17.1), (6, .int (bi r15.1))]) dX1_takeAll_161 rfl (Nat.le_of_ble_eq_true rfl) rfl ?_
        refine T_iinc (pc := 162) (y := 1) (lv' := [(0, .ref 4), (1, .int v1), (2, .int (bi r19.1)), (3, .int (v3 + (1 : Int32))), (4, .int v4), (5, .int r17.1), (6, .int (bi r15.1))]) 3 dX1_takeAll_162 (by decide) rfl (Nat.le_of_ble_eq_true rfl) rfl ?_
        refine T_goto (pc := 165) 11 dX1_takeAll_165 (by decide) ?_
        refine T_pick (lv' := [(0, .ref 4), (1, .int v1), (2, .int (bi r19.1)), (3, .int (v3 + (1 : Int32)))]) [0, 1, 2, 3] rfl ?_
        exact hkb r19.2 v1 (bi r19.1) (v3 + (1 : Int32))
      · refine T_iconst (pc := 147) (v := 1) dX1_takeAll_147 (by decide) ?_
        refine T_istore_n (pc := 148) (lv' := [(0, .ref 4), (1, .int (1 : Int32)), (3, .int v3), (4, .int v4), (5, .int r17.1), (6, .int (bi r15.1))]) dX1_takeAll_148 rfl (Nat.le_of_ble_eq_true rfl) rfl ?_
        refine T_aload_n (pc := 149) 0 dX1_takeAll_149 rfl rfl ?_
        refine T_iload (pc := 150) 4 dX1_takeAll_150 rfl ?_
        refine T_putI (pc := 152) fd_4_12 hw296 dX1_takeAll_152 ?_
        refine T_letS (fun s20 => ?_)
        refine T_aload_n (pc := 155) 0 dX1_takeAll_155 rfl rfl ?_
        refine T_bipush (pc := 156) (v := 59) dX1_takeAll_156 (by decide) ?_
        refine T_callSz (pc := 158) (rest := []) (Rn_U (pc := 158) (x := ⟨"CueRolls$Habits", "takes", "(I)Z"⟩) (as := [.int (59 : Int32)]) (rest := []) (ctX5_takes_h s20 (59 : Int32)) rfl rfl mu_X1_X1_X5_takes hw658 rfl rfl ⟨Nat.le_of_ble_eq_true rfl, Nat.le_of_ble_eq_true rfl⟩ (Nat.le_of_ble_eq_true rfl) dX1_takeAll_158 rfl) rfl (fun r21 => ?_)
        refine T_istore_n (pc := 161) (lv' := [(0, .ref 4), (1, .int (1 : Int32)), (2, .int (bi r21.1)), (3, .int v3), (4, .int v4), (5, .int r17.1), (6, .int (bi r15.1))]) dX1_takeAll_161 rfl (Nat.le_of_ble_eq_true rfl) rfl ?_
        refine T_iinc (pc := 162) (y := 1) (lv' := [(0, .ref 4), (1, .int (1 : Int32)), (2, .int (bi r21.1)), (3, .int (v3 + (1 : Int32))), (4, .int v4), (5, .int r17.1), (6, .int (bi r15.1))]) 3 dX1_takeAll_162 (by decide) rfl (Nat.le_of_ble_eq_true rfl) rfl ?_
        refine T_goto (pc := 165) 11 dX1_takeAll_165 (by decide) ?_
        refine T_pick (lv' := [(0, .ref 4), (1, .int (1 : Int32)), (2, .int (bi r21.1)), (3, .int (v3 + (1 : Int32)))]) [0, 1, 2, 3] rfl ?_
        exact hkb r21.2 (1 : Int32) (bi r21.1) (v3 + (1 : Int32))
set_option maxRecDepth 100000 in
set_option maxHeartbeats 4000000 in
theorem fX1_takeAll_J57_T (σ : St) (v1 : Int32) (v3 : Int32) (t0 : Int32) {kb : St → Int32 → Int32 → Int32 → Option St} (hkb : ∀ (σ' : St) (w1 : Int32) (w2 : Int32) (w3 : Int32), T kX1_takeAll cSv σ' 11 [(0, .ref 4), (1, .int w1), (2, .int w2), (3, .int w3)] [] (kb σ' w1 w2 w3)) : T kX1_takeAll cSv σ 57 [(0, .ref 4), (1, .int v1), (3, .int v3)] [.int t0] (fX1_takeAll_J57 kb σ v1 v3 t0) := by
  unfold fX1_takeAll_J57
  refine T_istore (pc := 57) (lv' := [(0, .ref 4), (1, .int v1), (3, .int v3), (4, .int t0)]) dX1_takeAll_57 (Nat.le_of_ble_eq_true rfl) rfl ?_
  refine T_iload (pc := 59) 3 dX1_takeAll_59 rfl ?_
  refine T_if_eq (pc := 61) 68 dX1_takeAll_61 (by decide) (fun _ => ?_) (fun _ => ?_)
  · refine T_aload_n (pc := 68) 0 dX1_takeAll_68 rfl rfl ?_
    refine T_iconst (pc := 69) (v := 0) dX1_takeAll_69 (by decide) ?_
    refine T_callSi (pc := 70) (rest := []) (Rn_V (pc := 70) (as := [.int (0 : Int32)]) (rest := []) (ctX1_sum 8 σ (0 : Int32)) rfl rfl mv_X1_sum hw601 rfl ⟨Nat.le_of_ble_eq_true rfl, Nat.le_of_ble_eq_true rfl⟩ (Nat.le_of_ble_eq_true rfl) dX1_takeAll_70 rfl) rfl (fun r5 => ?_)
    refine T_istore (pc := 73) (lv' := [(0, .ref 4), (1, .int v1), (3, .int v3), (4, .int t0), (5, .int r5.1)]) dX1_takeAll_73 (Nat.le_of_ble_eq_true rfl) rfl ?_
    refine T_iconst (pc := 75) (v := 1) dX1_takeAll_75 (by decide) ?_
    refine T_istore (pc := 76) (lv' := [(0, .ref 4), (1, .int v1), (3, .int v3), (4, .int t0), (5, .int r5.1), (6, .int (1 : Int32))]) dX1_takeAll_76 (Nat.le_of_ble_eq_true rfl) rfl ?_
    refine T_iload (pc := 78) 3 dX1_takeAll_78 rfl ?_
    refine T_if_ne (pc := 80) 93 dX1_takeAll_80 (by decide) (fun _ => ?_) (fun _ => ?_)
    · refine T_pick (lv' := [(0, .ref 4), (1, .int v1), (3, .int v3), (4, .int t0), (5, .int r5.1)]) [0, 1, 2, 3, 4] rfl ?_
      exact fX1_takeAll_J93_T (hkb := hkb) r5.2 v1 v3 t0 r5.1
    · refine T_aload_n (pc := 83) 0 dX1_takeAll_83 rfl rfl ?_
      refine T_callPi (pc := 84) (rest := []) (Rn_U (pc := 84) (x := ⟨"CueRolls$Habits", "sign", "()I"⟩) (as := []) (rest := []) (ctX5_sign_h r5.2) rfl rfl mu_X1_X1_X5_sign hw597 rfl rfl ⟨Nat.le_of_ble_eq_true rfl, Nat.le_of_ble_eq_true rfl⟩ (Nat.le_of_ble_eq_true rfl) dX1_takeAll_84 rfl) rfl (fun x22 => ?_)
      refine T_callPz (pc := 87) (rest := []) (Rn_S (pc := 87) (as := [.int x22]) (rest := []) (ctX1_isRelation r5.2 x22) ms_X1_isRelation hw647 rfl ⟨Nat.le_of_ble_eq_true rfl, Nat.le_of_ble_eq_true rfl⟩ (Nat.le_of_ble_eq_true rfl) dX1_takeAll_87 rfl) rfl (fun x23 => ?_)
      refine T_if_eq (pc := 90) 138 dX1_takeAll_90 (by decide) (fun _ => ?_) (fun _ => ?_)
      · refine T_iload (pc := 138) 5 dX1_takeAll_138 rfl ?_
        refine T_if_eq (pc := 140) 155 dX1_takeAll_140 (by decide) (fun _ => ?_) (fun _ => ?_)
        · refine T_aload_n (pc := 155) 0 dX1_takeAll_155 rfl rfl ?_
          refine T_bipush (pc := 156) (v := 59) dX1_takeAll_156 (by decide) ?_
          refine T_callSz (pc := 158) (rest := []) (Rn_U (pc := 158) (x := ⟨"CueRolls$Habits", "takes", "(I)Z"⟩) (as := [.int (59 : Int32)]) (rest := []) (ctX5_takes_h r5.2 (59 : Int32)) rfl rfl mu_X1_X1_X5_takes hw658 rfl rfl ⟨Nat.le_of_ble_eq_true rfl, Nat.le_of_ble_eq_true rfl⟩ (Nat.le_of_ble_eq_true rfl) dX1_takeAll_158 rfl) rfl (fun r24 => ?_)
          refine T_istore_n (pc := 161) (lv' := [(0, .ref 4), (1, .int v1), (2, .int (bi r24.1)), (3, .int v3), (4, .int t0), (5, .int r5.1), (6, .int (1 : Int32))]) dX1_takeAll_161 rfl (Nat.le_of_ble_eq_true rfl) rfl ?_
          refine T_iinc (pc := 162) (y := 1) (lv' := [(0, .ref 4), (1, .int v1), (2, .int (bi r24.1)), (3, .int (v3 + (1 : Int32))), (4, .int t0), (5, .int r5.1), (6, .int (1 : Int32))]) 3 dX1_takeAll_162 (by decide) rfl (Nat.le_of_ble_eq_true rfl) rfl ?_
          refine T_goto (pc := 165) 11 dX1_takeAll_165 (by decide) ?_
          refine T_pick (lv' := [(0, .ref 4), (1, .int v1), (2, .int (bi r24.1)), (3, .int (v3 + (1 : Int32)))]) [0, 1, 2, 3] rfl ?_
          exact hkb r24.2 v1 (bi r24.1) (v3 + (1 : Int32))
        · refine T_iload_n (pc := 143) 1 dX1_takeAll_143 rfl rfl ?_
          refine T_if_ne (pc := 144) 155 dX1_takeAll_144 (by decide) (fun _ => ?_) (fun _ => ?_)
          · refine T_aload_n (pc := 155) 0 dX1_takeAll_155 rfl rfl ?_
            refine T_bipush (pc := 156) (v := 59) dX1_takeAll_156 (by decide) ?_
            refine T_callSz (pc := 158) (rest := []) (Rn_U (pc := 158) (x := ⟨"CueRolls$Habits", "takes", "(I)Z"⟩) (as := [.int (59 : Int32)]) (rest := []) (ctX5_takes_h r5.2 (59 : Int32)) rfl rfl mu_X1_X1_X5_takes hw658 rfl rfl ⟨Nat.le_of_ble_eq_true rfl, Nat.le_of_ble_eq_true rfl⟩ (Nat.le_of_ble_eq_true rfl) dX1_takeAll_158 rfl) rfl (fun r25 => ?_)
            refine T_istore_n (pc := 161) (lv' := [(0, .ref 4), (1, .int v1), (2, .int (bi r25.1)), (3, .int v3), (4, .int t0), (5, .int r5.1), (6, .int (1 : Int32))]) dX1_takeAll_161 rfl (Nat.le_of_ble_eq_true rfl) rfl ?_
            refine T_iinc (pc := 162) (y := 1) (lv' := [(0, .ref 4), (1, .int v1), (2, .int (bi r25.1)), (3, .int (v3 + (1 : Int32))), (4, .int t0), (5, .int r5.1), (6, .int (1 : Int32))]) 3 dX1_takeAll_162 (by decide) rfl (Nat.le_of_ble_eq_true rfl) rfl ?_
            refine T_goto (pc := 165) 11 dX1_takeAll_165 (by decide) ?_
            refine T_pick (lv' := [(0, .ref 4), (1, .int v1), (2, .int (bi r25.1)), (3, .int (v3 + (1 : Int32)))]) [0, 1, 2, 3] rfl ?_
            exact hkb r25.2 v1 (bi r25.1) (v3 + (1 : Int32))
          · refine T_iconst (pc := 147) (v := 1) dX1_takeAll_147 (by decide) ?_
            refine T_istore_n (pc := 148) (lv' := [(0, .ref 4), (1, .int (1 : Int32)), (3, .int v3), (4, .int t0), (5, .int r5.1), (6, .int (1 : Int32))]) dX1_takeAll_148 rfl (Nat.le_of_ble_eq_true rfl) rfl ?_
            refine T_aload_n (pc := 149) 0 dX1_takeAll_149 rfl rfl ?_
            refine T_iload (pc := 150) 4 dX1_takeAll_150 rfl ?_
            refine T_putI (pc := 152) fd_4_12 hw296 dX1_takeAll_152 ?_
            refine T_letS (fun s26 => ?_)
            refine T_aload_n (pc := 155) 0 dX1_takeAll_155 rfl rfl ?_
            refine T_bipush (pc := 156) (v := 59) dX1_takeAll_156 (by decide) ?_
            refine T_callSz (pc := 158) (rest := []) (Rn_U (pc := 158) (x := ⟨"CueRolls$Habits", "takes", "(I)Z"⟩) (as := [.int (59 : Int32)]) (rest := []) (ctX5_takes_h s26 (59 : Int32)) rfl rfl mu_X1_X1_X5_takes hw658 rfl rfl ⟨Nat.le_of_ble_eq_true rfl, Nat.le_of_ble_eq_true rfl⟩ (Nat.le_of_ble_eq_true rfl) dX1_takeAll_158 rfl) rfl (fun r27 => ?_)
            refine T_istore_n (pc := 161) (lv' := [(0, .ref 4), (1, .int (1 : Int32)), (2, .int (bi r27.1)), (3, .int v3), (4, .int t0), (5, .int r5.1), (6, .int (1 : Int32))]) dX1_takeAll_161 rfl (Nat.le_of_ble_eq_true rfl) rfl ?_
            refine T_iinc (pc := 162) (y := 1) (lv' := [(0, .ref 4), (1, .int (1 : Int32)), (2, .int (bi r27.1)), (3, .int (v3 + (1 : Int32))), (4, .int t0), (5, .int r5.1), (6, .int (1 : Int32))]) 3 dX1_takeAll_162 (by decide) rfl (Nat.le_of_ble_eq_true rfl) rfl ?_
            refine T_goto (pc := 165) 11 dX1_takeAll_165 (by decide) ?_
            refine T_pick (lv' := [(0, .ref 4), (1, .int (1 : Int32)), (2, .int (bi r27.1)), (3, .int (v3 + (1 : Int32)))]) [0, 1, 2, 3] rfl ?_
            exact hkb r27.2 (1 : Int32) (bi r27.1) (v3 + (1 : Int32))
      · refine T_pick (lv' := [(0, .ref 4), (1, .int v1), (3, .int v3), (4, .int t0), (5, .int r5.1)]) [0, 1, 2, 3, 4] rfl ?_
        exact fX1_takeAll_J93_T (hkb := hkb) r5.2 v1 v3 t0 r5.1
  · refine T_iconst (pc := 64) (v := 0) dX1_takeAll_64 (by decide) ?_
    refine T_goto (pc := 65) 73 dX1_takeAll_65 (by decide) ?_
    refine T_istore (pc := 73) (lv' := [(0, .ref 4), (1, .int v1), (3, .int v3), (4, .int t0), (5, .int (0 : Int32))]) dX1_takeAll_73 (Nat.le_of_ble_eq_true rfl) rfl ?_
    refine T_iconst (pc := 75) (v := 1) dX1_takeAll_75 (by decide) ?_
    refine T_istore (pc := 76) (lv' := [(0, .ref 4), (1, .int v1), (3, .int v3), (4, .int t0), (5, .int (0 : Int32)), (6, .int (1 : Int32))]) dX1_takeAll_76 (Nat.le_of_ble_eq_true rfl) rfl ?_
    refine T_iload (pc := 78) 3 dX1_takeAll_78 rfl ?_
    refine T_if_ne (pc := 80) 93 dX1_takeAll_80 (by decide) (fun _ => ?_) (fun _ => ?_)
    · refine T_pick (lv' := [(0, .ref 4), (1, .int v1), (3, .int v3), (4, .int t0), (5, .int (0 : Int32))]) [0, 1, 2, 3, 4] rfl ?_
      exact fX1_takeAll_J93_T (hkb := hkb) σ v1 v3 t0 (0 : Int32)
    · refine T_aload_n (pc := 83) 0 dX1_takeAll_83 rfl rfl ?_
      refine T_callPi (pc := 84) (rest := []) (Rn_U (pc := 84) (x := ⟨"CueRolls$Habits", "sign", "()I"⟩) (as := []) (rest := []) (ctX5_sign_h σ) rfl rfl mu_X1_X1_X5_sign hw597 rfl rfl ⟨Nat.le_of_ble_eq_true rfl, Nat.le_of_ble_eq_true rfl⟩ (Nat.le_of_ble_eq_true rfl) dX1_takeAll_84 rfl) rfl (fun x28 => ?_)
      refine T_callPz (pc := 87) (rest := []) (Rn_S (pc := 87) (as := [.int x28]) (rest := []) (ctX1_isRelation σ x28) ms_X1_isRelation hw647 rfl ⟨Nat.le_of_ble_eq_true rfl, Nat.le_of_ble_eq_true rfl⟩ (Nat.le_of_ble_eq_true rfl) dX1_takeAll_87 rfl) rfl (fun x29 => ?_)
      refine T_if_eq (pc := 90) 138 dX1_takeAll_90 (by decide) (fun _ => ?_) (fun _ => ?_)
      · refine T_iload (pc := 138) 5 dX1_takeAll_138 rfl ?_
        refine T_if_eq (pc := 140) 155 dX1_takeAll_140 (by decide) (fun _ => ?_) (fun _ => ?_)
        · refine T_aload_n (pc := 155) 0 dX1_takeAll_155 rfl rfl ?_
          refine T_bipush (pc := 156) (v := 59) dX1_takeAll_156 (by decide) ?_
          refine T_callSz (pc := 158) (rest := []) (Rn_U (pc := 158) (x := ⟨"CueRolls$Habits", "takes", "(I)Z"⟩) (as := [.int (59 : Int32)]) (rest := []) (ctX5_takes_h σ (59 : Int32)) rfl rfl mu_X1_X1_X5_takes hw658 rfl rfl ⟨Nat.le_of_ble_eq_true rfl, Nat.le_of_ble_eq_true rfl⟩ (Nat.le_of_ble_eq_true rfl) dX1_takeAll_158 rfl) rfl (fun r30 => ?_)
          refine T_istore_n (pc := 161) (lv' := [(0, .ref 4), (1, .int v1), (2, .int (bi r30.1)), (3, .int v3), (4, .int t0), (5, .int (0 : Int32)), (6, .int (1 : Int32))]) dX1_takeAll_161 rfl (Nat.le_of_ble_eq_true rfl) rfl ?_
          refine T_iinc (pc := 162) (y := 1) (lv' := [(0, .ref 4), (1, .int v1), (2, .int (bi r30.1)), (3, .int (v3 + (1 : Int32))), (4, .int t0), (5, .int (0 : Int32)), (6, .int (1 : Int32))]) 3 dX1_takeAll_162 (by decide) rfl (Nat.le_of_ble_eq_true rfl) rfl ?_
          refine T_goto (pc := 165) 11 dX1_takeAll_165 (by decide) ?_
          refine T_pick (lv' := [(0, .ref 4), (1, .int v1), (2, .int (bi r30.1)), (3, .int (v3 + (1 : Int32)))]) [0, 1, 2, 3] rfl ?_
          exact hkb r30.2 v1 (bi r30.1) (v3 + (1 : Int32))
        · refine T_iload_n (pc := 143) 1 dX1_takeAll_143 rfl rfl ?_
          refine T_if_ne (pc := 144) 155 dX1_takeAll_144 (by decide) (fun _ => ?_) (fun _ => ?_)
          · refine T_aload_n (pc := 155) 0 dX1_takeAll_155 rfl rfl ?_
            refine T_bipush (pc := 156) (v := 59) dX1_takeAll_156 (by decide) ?_
            refine T_callSz (pc := 158) (rest := []) (Rn_U (pc := 158) (x := ⟨"CueRolls$Habits", "takes", "(I)Z"⟩) (as := [.int (59 : Int32)]) (rest := []) (ctX5_takes_h σ (59 : Int32)) rfl rfl mu_X1_X1_X5_takes hw658 rfl rfl ⟨Nat.le_of_ble_eq_true rfl, Nat.le_of_ble_eq_true rfl⟩ (Nat.le_of_ble_eq_true rfl) dX1_takeAll_158 rfl) rfl (fun r31 => ?_)
            refine T_istore_n (pc := 161) (lv' := [(0, .ref 4), (1, .int v1), (2, .int (bi r31.1)), (3, .int v3), (4, .int t0), (5, .int (0 : Int32)), (6, .int (1 : Int32))]) dX1_takeAll_161 rfl (Nat.le_of_ble_eq_true rfl) rfl ?_
            refine T_iinc (pc := 162) (y := 1) (lv' := [(0, .ref 4), (1, .int v1), (2, .int (bi r31.1)), (3, .int (v3 + (1 : Int32))), (4, .int t0), (5, .int (0 : Int32)), (6, .int (1 : Int32))]) 3 dX1_takeAll_162 (by decide) rfl (Nat.le_of_ble_eq_true rfl) rfl ?_
            refine T_goto (pc := 165) 11 dX1_takeAll_165 (by decide) ?_
            refine T_pick (lv' := [(0, .ref 4), (1, .int v1), (2, .int (bi r31.1)), (3, .int (v3 + (1 : Int32)))]) [0, 1, 2, 3] rfl ?_
            exact hkb r31.2 v1 (bi r31.1) (v3 + (1 : Int32))
          · refine T_iconst (pc := 147) (v := 1) dX1_takeAll_147 (by decide) ?_
            refine T_istore_n (pc := 148) (lv' := [(0, .ref 4), (1, .int (1 : Int32)), (3, .int v3), (4, .int t0), (5, .int (0 : Int32)), (6, .int (1 : Int32))]) dX1_takeAll_148 rfl (Nat.le_of_ble_eq_true rfl) rfl ?_
            refine T_aload_n (pc := 149) 0 dX1_takeAll_149 rfl rfl ?_
            refine T_iload (pc := 150) 4 dX1_takeAll_150 rfl ?_
            refine T_putI (pc := 152) fd_4_12 hw296 dX1_takeAll_152 ?_
            refine T_letS (fun s32 => ?_)
            refine T_aload_n (pc := 155) 0 dX1_takeAll_155 rfl rfl ?_
            refine T_bipush (pc := 156) (v := 59) dX1_takeAll_156 (by decide) ?_
            refine T_callSz (pc := 158) (rest := []) (Rn_U (pc := 158) (x := ⟨"CueRolls$Habits", "takes", "(I)Z"⟩) (as := [.int (59 : Int32)]) (rest := []) (ctX5_takes_h s32 (59 : Int32)) rfl rfl mu_X1_X1_X5_takes hw658 rfl rfl ⟨Nat.le_of_ble_eq_true rfl, Nat.le_of_ble_eq_true rfl⟩ (Nat.le_of_ble_eq_true rfl) dX1_takeAll_158 rfl) rfl (fun r33 => ?_)
            refine T_istore_n (pc := 161) (lv' := [(0, .ref 4), (1, .int (1 : Int32)), (2, .int (bi r33.1)), (3, .int v3), (4, .int t0), (5, .int (0 : Int32)), (6, .int (1 : Int32))]) dX1_takeAll_161 rfl (Nat.le_of_ble_eq_true rfl) rfl ?_
            refine T_iinc (pc := 162) (y := 1) (lv' := [(0, .ref 4), (1, .int (1 : Int32)), (2, .int (bi r33.1)), (3, .int (v3 + (1 : Int32))), (4, .int t0), (5, .int (0 : Int32)), (6, .int (1 : Int32))]) 3 dX1_takeAll_162 (by decide) rfl (Nat.le_of_ble_eq_true rfl) rfl ?_
            refine T_goto (pc := 165) 11 dX1_takeAll_165 (by decide) ?_
            refine T_pick (lv' := [(0, .ref 4), (1, .int (1 : Int32)), (2, .int (bi r33.1)), (3, .int (v3 + (1 : Int32)))]) [0, 1, 2, 3] rfl ?_
            exact hkb r33.2 (1 : Int32) (bi r33.1) (v3 + (1 : Int32))
      · refine T_pick (lv' := [(0, .ref 4), (1, .int v1), (3, .int v3), (4, .int t0), (5, .int (0 : Int32))]) [0, 1, 2, 3, 4] rfl ?_
        exact fX1_takeAll_J93_T (hkb := hkb) σ v1 v3 t0 (0 : Int32)
set_option maxRecDepth 100000 in
set_option maxHeartbeats 4000000 in
theorem fX1_takeAll_L11_T (σ : St) {kb : St → Int32 → Int32 → Int32 → Option St} (hkb : ∀ (σ' : St) (w1 : Int32) (w2 : Int32) (w3 : Int32), T kX1_takeAll cSv σ' 11 [(0, .ref 4), (1, .int w1), (2, .int w2), (3, .int w3)] [] (kb σ' w1 w2 w3)) (v1 : Int32) (v2 : Int32) (v3 : Int32) : T kX1_takeAll cSv σ 11 [(0, .ref 4), (1, .int v1), (2, .int v2), (3, .int v3)] [] (fX1_takeAll_L11 kb σ v1 v2 v3) := by
  unfold fX1_takeAll_L11
  refine T_iload_n (pc := 11) 3 dX1_takeAll_11 rfl rfl ?_
  refine T_sipush (pc := 12) (v := 200) dX1_takeAll_12 (by decide) ?_
  refine T_icmp_ge (pc := 15) 168 dX1_takeAll_15 (by decide) (fun _ => ?_) (fun _ => ?_)
  · exact T_return (pc := 168) rfl dX1_takeAll_168 rfl
  · refine T_iload_n (pc := 18) 2 dX1_takeAll_18 rfl rfl ?_
    refine T_if_eq (pc := 19) 168 dX1_takeAll_19 (by decide) (fun _ => ?_) (fun _ => ?_)
    · exact T_return (pc := 168) rfl dX1_takeAll_168 rfl
    · refine T_aload_n (pc := 22) 0 dX1_takeAll_22 rfl rfl ?_
      refine T_bipush (pc := 23) (v := 121) dX1_takeAll_23 (by decide) ?_
      refine T_callSv (pc := 25) (rest := []) (Rn_U (pc := 25) (x := ⟨"CueRolls$Habits", "needs", "(I)V"⟩) (as := [.int (121 : Int32)]) (rest := []) (ctX5_needs_h σ (121 : Int32)) rfl rfl mu_X1_X1_X5_needs hw577 rfl rfl ⟨Nat.le_of_ble_eq_true rfl, Nat.le_of_ble_eq_true rfl⟩ (Nat.le_of_ble_eq_true rfl) dX1_takeAll_25 rfl) rfl (fun s2 => ?_)
      refine T_aload_n (pc := 28) 0 dX1_takeAll_28 rfl rfl ?_
      refine T_bipush (pc := 29) (v := 58) dX1_takeAll_29 (by decide) ?_
      refine T_callSv (pc := 31) (rest := []) (Rn_U (pc := 31) (x := ⟨"CueRolls$Habits", "needs", "(I)V"⟩) (as := [.int (58 : Int32)]) (rest := []) (ctX5_needs_h s2 (58 : Int32)) rfl rfl mu_X1_X1_X5_needs hw577 rfl rfl ⟨Nat.le_of_ble_eq_true rfl, Nat.le_of_ble_eq_true rfl⟩ (Nat.le_of_ble_eq_true rfl) dX1_takeAll_31 rfl) rfl (fun s3 => ?_)
      refine T_aload_n (pc := 34) 0 dX1_takeAll_34 rfl rfl ?_
      refine T_callPi (pc := 35) (rest := []) (Rn_U (pc := 35) (x := ⟨"CueRolls$Habits", "sign", "()I"⟩) (as := []) (rest := []) (ctX5_sign_h s3) rfl rfl mu_X1_X1_X5_sign hw597 rfl rfl ⟨Nat.le_of_ble_eq_true rfl, Nat.le_of_ble_eq_true rfl⟩ (Nat.le_of_ble_eq_true rfl) dX1_takeAll_35 rfl) rfl (fun x4 => ?_)
      refine T_bipush (pc := 38) (v := 33) dX1_takeAll_38 (by decide) ?_
      refine T_icmp_eq (pc := 40) 52 dX1_takeAll_40 (by decide) (fun _ => ?_) (fun _ => ?_)
      · refine T_iconst (pc := 52) (v := 1) dX1_takeAll_52 (by decide) ?_
        refine T_goto (pc := 53) 57 dX1_takeAll_53 (by decide) ?_
        refine T_pick (lv' := [(0, .ref 4), (1, .int v1), (3, .int v3)]) [0, 1, 3] rfl ?_
        exact fX1_takeAll_J57_T (hkb := hkb) s3 v1 v3 (1 : Int32)
      · refine T_aload_n (pc := 43) 0 dX1_takeAll_43 rfl rfl ?_
        refine T_callPi (pc := 44) (rest := []) (Rn_U (pc := 44) (x := ⟨"CueRolls$Habits", "sign", "()I"⟩) (as := []) (rest := []) (ctX5_sign_h s3) rfl rfl mu_X1_X1_X5_sign hw597 rfl rfl ⟨Nat.le_of_ble_eq_true rfl, Nat.le_of_ble_eq_true rfl⟩ (Nat.le_of_ble_eq_true rfl) dX1_takeAll_44 rfl) rfl (fun x34 => ?_)
        refine T_bipush (pc := 47) (v := 40) dX1_takeAll_47 (by decide) ?_
        refine T_icmp_ne (pc := 49) 56 dX1_takeAll_49 (by decide) (fun _ => ?_) (fun _ => ?_)
        · refine T_iconst (pc := 56) (v := 0) dX1_takeAll_56 (by decide) ?_
          refine T_pick (lv' := [(0, .ref 4), (1, .int v1), (3, .int v3)]) [0, 1, 3] rfl ?_
          exact fX1_takeAll_J57_T (hkb := hkb) s3 v1 v3 (0 : Int32)
        · refine T_iconst (pc := 52) (v := 1) dX1_takeAll_52 (by decide) ?_
          refine T_goto (pc := 53) 57 dX1_takeAll_53 (by decide) ?_
          refine T_pick (lv' := [(0, .ref 4), (1, .int v1), (3, .int v3)]) [0, 1, 3] rfl ?_
          exact fX1_takeAll_J57_T (hkb := hkb) s3 v1 v3 (1 : Int32)
set_option maxRecDepth 100000 in
set_option maxHeartbeats 4000000 in
theorem fX1_takeAll_P11_T (σ : St) (v1 : Int32) (v2 : Int32) (v3 : Int32) : T kX1_takeAll cSv σ 11 [(0, .ref 4), (1, .int v1), (2, .int v2), (3, .int v3)] [] (fX1_takeAll_P11 σ v1 v2 v3) :=
  it_T (S := (fun t : St × Int32 × Int32 × Int32 => t.1)) (lv := fun t : St × Int32 × Int32 × Int32 => [(0, .ref 4), (1, .int t.2.1), (2, .int t.2.2.1), (3, .int t.2.2.2)]) (st := fun _ => []) (fun kb hkb t => fX1_takeAll_L11_T (hkb := fun σ v1 v2 v3 => hkb (σ, v1, v2, v3)) t.1 t.2.1 t.2.2.1 t.2.2.2) FU (σ, v1, v2, v3)
set_option maxRecDepth 100000 in
set_option maxHeartbeats 4000000 in
theorem ctX1_takeAll (σ : St) : Ct yX1_takeAll kX1_takeAll [.ref 4] σ cSv (fX1_takeAll σ) := by
  refine Ct.of (by decide +kernel) rfl rfl (Nat.le_of_ble_eq_true rfl) ?_
  unfold fX1_takeAll
  show T _ _ _ 0 [(0, .ref 4)] [] _
  refine T_aload_n (pc := 0) 0 dX1_takeAll_0 rfl rfl ?_
  refine T_iconst (pc := 1) (v := 0) dX1_takeAll_1 (by decide) ?_
  refine T_putI (pc := 2) fd_4_12 hw296 dX1_takeAll_2 ?_
  refine T_letS (fun s1 => ?_)
  refine T_iconst (pc := 5) (v := 0) dX1_takeAll_5 (by decide) ?_
  refine T_istore_n (pc := 6) (lv' := [(0, .ref 4), (1, .int (0 : Int32))]) dX1_takeAll_6 rfl (Nat.le_of_ble_eq_true rfl) rfl ?_
  refine T_iconst (pc := 7) (v := 1) dX1_takeAll_7 (by decide) ?_
  refine T_istore_n (pc := 8) (lv' := [(0, .ref 4), (1, .int (0 : Int32)), (2, .int (1 : Int32))]) dX1_takeAll_8 rfl (Nat.le_of_ble_eq_true rfl) rfl ?_
  refine T_iconst (pc := 9) (v := 0) dX1_takeAll_9 (by decide) ?_
  refine T_istore_n (pc := 10) (lv' := [(0, .ref 4), (1, .int (0 : Int32)), (2, .int (1 : Int32)), (3, .int (0 : Int32))]) dX1_takeAll_10 rfl (Nat.le_of_ble_eq_true rfl) rfl ?_
  exact fX1_takeAll_P11_T s1 (0 : Int32) (1 : Int32) (0 : Int32)
set_option maxRecDepth 100000 in
set_option maxHeartbeats 4000000 in
theorem ctX5_faultOf_h (σ : St) : Ct yX5_faultOf kX5_faultOf_h [.ref 4, .ref 1] σ cSi (fX5_faultOf_h σ) := by
  refine Ct.of (by decide +kernel) rfl rfl (Nat.le_of_ble_eq_true rfl) ?_
  unfold fX5_faultOf_h
  show T _ _ _ 0 [(0, .ref 4), (1, .ref 1)] [] _
  refine T_aload_n (pc := 0) 0 dX5_faultOf_0 rfl rfl ?_
  refine T_aload_n (pc := 1) 1 dX5_faultOf_1 rfl rfl ?_
  refine T_callSv (pc := 2) (rest := []) (Rn_U (pc := 2) (x := ⟨"CueRolls$Reader", "cutUp", "(LCueRolls$Tape;)V"⟩) (as := [.ref 1]) (rest := []) (ctX5_cutUp_h σ) rfl rfl mu_X1_Reader_X5_cutUp hw511 rfl rfl ⟨Nat.le_of_ble_eq_true rfl, Nat.le_of_ble_eq_true rfl⟩ (Nat.le_of_ble_eq_true rfl) dX5_faultOf_2 rfl) rfl (fun s1 => ?_)
  refine T_aload_n (pc := 5) 0 dX5_faultOf_5 rfl rfl ?_
  refine T_aload_n (pc := 6) 0 dX5_faultOf_6 rfl rfl ?_
  refine T_getA (pc := 7) fd_4_0 hw237 dX5_faultOf_7 ?_
  refine T_callSv (pc := 10) (rest := []) (Rn_U (pc := 10) (x := ⟨"CueRolls$Reader", "begin", "([J)V"⟩) (as := [.ref 21]) (rest := []) (ctX5_begin_h_21 s1) rfl rfl mu_X1_Reader_X5_begin hw564 rfl rfl ⟨Nat.le_of_ble_eq_true rfl, Nat.le_of_ble_eq_true rfl⟩ (Nat.le_of_ble_eq_true rfl) dX5_faultOf_10 rfl) rfl (fun s2 => ?_)
  refine T_aload_n (pc := 13) 0 dX5_faultOf_13 rfl rfl ?_
  refine T_callSv (pc := 14) (rest := []) (Rn_A (pc := 14) (x := ⟨"CueRolls$Reader", "takeAll", "()V"⟩) (as := []) (rest := []) (ctX1_takeAll s2) rfl rfl mu_X1_Reader_X1_takeAll hw571 (by decide) rfl ⟨Nat.le_of_ble_eq_true rfl, Nat.le_of_ble_eq_true rfl⟩ (Nat.le_of_ble_eq_true rfl) dX5_faultOf_14 rfl) rfl (fun s3 => ?_)
  refine T_aload_n (pc := 17) 0 dX5_faultOf_17 rfl rfl ?_
  refine T_callPi (pc := 18) (rest := []) (Rn_U (pc := 18) (x := ⟨"CueRolls$Reader", "sign", "()I"⟩) (as := []) (rest := []) (ctX5_sign_h s3) rfl rfl mu_X1_Reader_X5_sign hw583 rfl rfl ⟨Nat.le_of_ble_eq_true rfl, Nat.le_of_ble_eq_true rfl⟩ (Nat.le_of_ble_eq_true rfl) dX5_faultOf_18 rfl) rfl (fun x4 => ?_)
  refine T_sipush (pc := 21) (v := 256) dX5_faultOf_21 (by decide) ?_
  refine T_icmp_eq (pc := 24) 31 dX5_faultOf_24 (by decide) (fun _ => ?_) (fun _ => ?_)
  · refine T_aload_n (pc := 31) 0 dX5_faultOf_31 rfl rfl ?_
    refine T_getI (pc := 32) fd_4_4 hw241 dX5_faultOf_32 ?_
    exact T_ireturn (pc := 35) rfl dX5_faultOf_35 rfl
  · refine T_aload_n (pc := 27) 0 dX5_faultOf_27 rfl rfl ?_
    refine T_callSv (pc := 28) (rest := []) (Rn_U (pc := 28) (x := ⟨"CueRolls$Reader", "spoil", "()V"⟩) (as := []) (rest := []) (ctX5_spoil_h s3) rfl rfl mu_X1_Reader_X5_spoil hw590 rfl rfl ⟨Nat.le_of_ble_eq_true rfl, Nat.le_of_ble_eq_true rfl⟩ (Nat.le_of_ble_eq_true rfl) dX5_faultOf_28 rfl) rfl (fun s5 => ?_)
    refine T_aload_n (pc := 31) 0 dX5_faultOf_31 rfl rfl ?_
    refine T_getI (pc := 32) fd_4_4 hw241 dX5_faultOf_32 ?_
    exact T_ireturn (pc := 35) rfl dX5_faultOf_35 rfl
set_option maxRecDepth 100000 in
set_option maxHeartbeats 4000000 in
theorem ctX3_joins (σ : St) (p0 : Int32) : Ct yX3_joins kX3_joins [.ref 3, .int p0] σ (cPz σ) (fX3_joins p0) := by
  refine Ct.of (by decide +kernel) rfl rfl (Nat.le_of_ble_eq_true rfl) ?_
  unfold fX3_joins
  show T _ _ _ 0 [(0, .ref 3), (1, .int p0)] [] _
  refine T_iconst (pc := 0) (v := 0) dX3_joins_0 (by decide) ?_
  exact T_zreturn (pc := 1) false rfl dX3_joins_1 rfl rfl
set_option maxRecDepth 100000 in
set_option maxHeartbeats 4000000 in
theorem ctX3_grown (σ : St) (p0 : Int64) (p1 : Int32) : Ct yX3_grown kX3_grown [.ref 3, .long p0, .int p1] σ (cPl σ) (fX3_grown p0 p1) := by
  refine Ct.of (by decide +kernel) rfl rfl (Nat.le_of_ble_eq_true rfl) ?_
  unfold fX3_grown
  show T _ _ _ 0 [(0, .ref 3), (1, .long p0), (3, .int p1)] [] _
  refine T_lload_n (pc := 0) 1 dX3_grown_0 rfl rfl ?_
  exact T_lreturn (pc := 1) rfl dX3_grown_1 rfl
set_option maxRecDepth 100000 in
set_option maxHeartbeats 4000000 in
theorem ctX3_mostJoined (σ : St) : Ct yX3_mostJoined kX3_mostJoined [.ref 3] σ (cPi σ) (fX3_mostJoined) := by
  refine Ct.of (by decide +kernel) rfl rfl (Nat.le_of_ble_eq_true rfl) ?_
  unfold fX3_mostJoined
  show T _ _ _ 0 [(0, .ref 3)] [] _
  refine T_iconst (pc := 0) (v := 0) dX3_mostJoined_0 (by decide) ?_
  exact T_ireturn (pc := 1) rfl dX3_mostJoined_1 rfl
set_option maxRecDepth 100000 in
set_option maxHeartbeats 4000000 in
theorem fX5_cutUp_p_J114_T (σ : St) (v2 : Int32) (v3 : Int32) (v4 : Int32) (v5 : Int32) (v6 : Int32) (t0 : Int32) {kb : St → Int32 → Int32 → Int32 → Option St} (hkb : ∀ (σ' : St) (w2 : Int32) (w3 : Int32) (w4 : Int32), T kX5_cutUp_p cSv σ' 7 [(0, .ref 3), (1, .ref 1), (2, .int w2), (3, .int w3), (4, .int w4)] [] (kb σ' w2 w3 w4)) : T kX5_cutUp_p cSv σ 114 [(0, .ref 3), (1, .ref 1), (2, .int v2), (3, .int v3), (4, .int v4), (5, .int v5), (6, .int v6)] [.int t0] (fX5_cutUp_p_J114 kb σ v2 v3 v4 v5 v6 t0) := by
  unfold fX5_cutUp_p_J114
  refine T_istore (pc := 114) (lv' := [(0, .ref 3), (1, .ref 1), (2, .int v2), (3, .int v3), (4, .int v4), (5, .int v5), (6, .int v6), (7, .int t0)]) dX5_cutUp_114 (Nat.le_of_ble_eq_true rfl) rfl ?_
  refine T_aload_n (pc := 116) 0 dX5_cutUp_116 rfl rfl ?_
  refine T_getA (pc := 117) fd_3_0 hw237 dX5_cutUp_117 ?_
  refine T_iload_n (pc := 120) 2 dX5_cutUp_120 rfl rfl ?_
  refine T_iload (pc := 121) 7 dX5_cutUp_121 rfl ?_
  refine T_if_eq (pc := 123) 132 dX5_cutUp_123 (by decide) (fun _ => ?_) (fun _ => ?_)
  · refine T_iload (pc := 132) 6 dX5_cutUp_132 rfl ?_
    refine T_if_eq (pc := 134) 151 dX5_cutUp_134 (by decide) (fun _ => ?_) (fun _ => ?_)
    · refine T_iload (pc := 151) 5 dX5_cutUp_151 rfl ?_
      refine T_i2l (pc := 153) dX5_cutUp_153 ?_
      refine T_last (pc := 154) rfl dX5_cutUp_154 ?_
      refine T_letS (fun s5 => ?_)
      refine T_aload_n (pc := 155) 0 dX5_cutUp_155 rfl rfl ?_
      refine T_getA (pc := 156) fd_3_1 hw238 dX5_cutUp_156 ?_
      refine T_iload_n (pc := 159) 2 dX5_cutUp_159 rfl rfl ?_
      refine T_iload (pc := 160) 4 dX5_cutUp_160 rfl ?_
      refine T_iast (pc := 162) rfl dX5_cutUp_162 ?_
      refine T_letS (fun s6 => ?_)
      refine T_iinc (pc := 163) (y := 1) (lv' := [(0, .ref 3), (1, .ref 1), (2, .int (v2 + (1 : Int32))), (3, .int v3), (4, .int v4), (5, .int v5), (6, .int v6), (7, .int t0)]) 2 dX5_cutUp_163 (by decide) rfl (Nat.le_of_ble_eq_true rfl) rfl ?_
      refine T_iload (pc := 166) 6 dX5_cutUp_166 rfl ?_
      refine T_if_eq (pc := 168) 177 dX5_cutUp_168 (by decide) (fun _ => ?_) (fun _ => ?_)
      · refine T_iconst (pc := 177) (v := 0) dX5_cutUp_177 (by decide) ?_
        refine T_istore_n (pc := 178) (lv' := [(0, .ref 3), (1, .ref 1), (2, .int (v2 + (1 : Int32))), (3, .int (0 : Int32)), (4, .int v4), (5, .int v5), (6, .int v6), (7, .int t0)]) dX5_cutUp_178 rfl (Nat.le_of_ble_eq_true rfl) rfl ?_
        refine T_iinc (pc := 179) (y := 1) (lv' := [(0, .ref 3), (1, .ref 1), (2, .int (v2 + (1 : Int32))), (3, .int (0 : Int32)), (4, .int (v4 + (1 : Int32))), (5, .int v5), (6, .int v6), (7, .int t0)]) 4 dX5_cutUp_179 (by decide) rfl (Nat.le_of_ble_eq_true rfl) rfl ?_
        refine T_goto (pc := 182) 7 dX5_cutUp_182 (by decide) ?_
        refine T_pick (lv' := [(0, .ref 3), (1, .ref 1), (2, .int (v2 + (1 : Int32))), (3, .int (0 : Int32)), (4, .int (v4 + (1 : Int32)))]) [0, 1, 2, 3, 4] rfl ?_
        exact hkb s6 (v2 + (1 : Int32)) (0 : Int32) (v4 + (1 : Int32))
      · refine T_iload_n (pc := 171) 3 dX5_cutUp_171 rfl rfl ?_
        refine T_iconst (pc := 172) (v := 1) dX5_cutUp_172 (by decide) ?_
        refine T_iadd (pc := 173) dX5_cutUp_173 ?_
        refine T_goto (pc := 174) 178 dX5_cutUp_174 (by decide) ?_
        refine T_letI (fun x7 => ?_)
        refine T_istore_n (pc := 178) (lv' := [(0, .ref 3), (1, .ref 1), (2, .int (v2 + (1 : Int32))), (3, .int x7), (4, .int v4), (5, .int v5), (6, .int v6), (7, .int t0)]) dX5_cutUp_178 rfl (Nat.le_of_ble_eq_true rfl) rfl ?_
        refine T_iinc (pc := 179) (y := 1) (lv' := [(0, .ref 3), (1, .ref 1), (2, .int (v2 + (1 : Int32))), (3, .int x7), (4, .int (v4 + (1 : Int32))), (5, .int v5), (6, .int v6), (7, .int t0)]) 4 dX5_cutUp_179 (by decide) rfl (Nat.le_of_ble_eq_true rfl) rfl ?_
        refine T_goto (pc := 182) 7 dX5_cutUp_182 (by decide) ?_
        refine T_pick (lv' := [(0, .ref 3), (1, .ref 1), (2, .int (v2 + (1 : Int32))), (3, .int x7), (4, .int (v4 + (1 : Int32)))]) [0, 1, 2, 3, 4] rfl ?_
        exact hkb s6 (v2 + (1 : Int32)) x7 (v4 + (1 : Int32))
    · refine T_ldc2 (pc := 137) hw544 dX5_cutUp_137 ?_
      refine T_aload_n (pc := 140) 0 dX5_cutUp_140 rfl rfl ?_
      refine T_lconst (pc := 141) (v := 0) dX5_cutUp_141 (by decide) ?_
      refine T_iload (pc := 142) 5 dX5_cutUp_142 rfl ?_
      refine T_callPl (pc := 144) (rest := [.long (1000 : Int64), .int v2, .ref 18]) (Rn_A (pc := 144) (x := ⟨"CueRolls$Reader", "grown", "(JI)J"⟩) (as := [.long (0 : Int64), .int v5]) (rest := [.long (1000 : Int64), .int v2, .ref 18]) (ctX3_grown σ (0 : Int64) v5) rfl rfl mu_X3_Reader_X3_grown hw545 (by decide) rfl ⟨Nat.le_of_ble_eq_true rfl, Nat.le_of_ble_eq_true rfl⟩ (Nat.le_of_ble_eq_true rfl) dX5_cutUp_144 rfl) rfl (fun x8 => ?_)
      refine T_ladd (pc := 147) dX5_cutUp_147 ?_
      refine T_goto (pc := 148) 154 dX5_cutUp_148 (by decide) ?_
      refine T_last (pc := 154) rfl dX5_cutUp_154 ?_
      refine T_letS (fun s9 => ?_)
      refine T_aload_n (pc := 155) 0 dX5_cutUp_155 rfl rfl ?_
      refine T_getA (pc := 156) fd_3_1 hw238 dX5_cutUp_156 ?_
      refine T_iload_n (pc := 159) 2 dX5_cutUp_159 rfl rfl ?_
      refine T_iload (pc := 160) 4 dX5_cutUp_160 rfl ?_
      refine T_iast (pc := 162) rfl dX5_cutUp_162 ?_
      refine T_letS (fun s10 => ?_)
      refine T_iinc (pc := 163) (y := 1) (lv' := [(0, .ref 3), (1, .ref 1), (2, .int (v2 + (1 : Int32))), (3, .int v3), (4, .int v4), (5, .int v5), (6, .int v6), (7, .int t0)]) 2 dX5_cutUp_163 (by decide) rfl (Nat.le_of_ble_eq_true rfl) rfl ?_
      refine T_iload (pc := 166) 6 dX5_cutUp_166 rfl ?_
      refine T_if_eq (pc := 168) 177 dX5_cutUp_168 (by decide) (fun _ => ?_) (fun _ => ?_)
      · refine T_iconst (pc := 177) (v := 0) dX5_cutUp_177 (by decide) ?_
        refine T_istore_n (pc := 178) (lv' := [(0, .ref 3), (1, .ref 1), (2, .int (v2 + (1 : Int32))), (3, .int (0 : Int32)), (4, .int v4), (5, .int v5), (6, .int v6), (7, .int t0)]) dX5_cutUp_178 rfl (Nat.le_of_ble_eq_true rfl) rfl ?_
        refine T_iinc (pc := 179) (y := 1) (lv' := [(0, .ref 3), (1, .ref 1), (2, .int (v2 + (1 : Int32))), (3, .int (0 : Int32)), (4, .int (v4 + (1 : Int32))), (5, .int v5), (6, .int v6), (7, .int t0)]) 4 dX5_cutUp_179 (by decide) rfl (Nat.le_of_ble_eq_true rfl) rfl ?_
        refine T_goto (pc := 182) 7 dX5_cutUp_182 (by decide) ?_
        refine T_pick (lv' := [(0, .ref 3), (1, .ref 1), (2, .int (v2 + (1 : Int32))), (3, .int (0 : Int32)), (4, .int (v4 + (1 : Int32)))]) [0, 1, 2, 3, 4] rfl ?_
        exact hkb s10 (v2 + (1 : Int32)) (0 : Int32) (v4 + (1 : Int32))
      · refine T_iload_n (pc := 171) 3 dX5_cutUp_171 rfl rfl ?_
        refine T_iconst (pc := 172) (v := 1) dX5_cutUp_172 (by decide) ?_
        refine T_iadd (pc := 173) dX5_cutUp_173 ?_
        refine T_goto (pc := 174) 178 dX5_cutUp_174 (by decide) ?_
        refine T_letI (fun x11 => ?_)
        refine T_istore_n (pc := 178) (lv' := [(0, .ref 3), (1, .ref 1), (2, .int (v2 + (1 : Int32))), (3, .int x11), (4, .int v4), (5, .int v5), (6, .int v6), (7, .int t0)]) dX5_cutUp_178 rfl (Nat.le_of_ble_eq_true rfl) rfl ?_
        refine T_iinc (pc := 179) (y := 1) (lv' := [(0, .ref 3), (1, .ref 1), (2, .int (v2 + (1 : Int32))), (3, .int x11), (4, .int (v4 + (1 : Int32))), (5, .int v5), (6, .int v6), (7, .int t0)]) 4 dX5_cutUp_179 (by decide) rfl (Nat.le_of_ble_eq_true rfl) rfl ?_
        refine T_goto (pc := 182) 7 dX5_cutUp_182 (by decide) ?_
        refine T_pick (lv' := [(0, .ref 3), (1, .ref 1), (2, .int (v2 + (1 : Int32))), (3, .int x11), (4, .int (v4 + (1 : Int32)))]) [0, 1, 2, 3, 4] rfl ?_
        exact hkb s10 (v2 + (1 : Int32)) x11 (v4 + (1 : Int32))
  · refine T_ldc2 (pc := 126) hw562 dX5_cutUp_126 ?_
    refine T_goto (pc := 129) 154 dX5_cutUp_129 (by decide) ?_
    refine T_last (pc := 154) rfl dX5_cutUp_154 ?_
    refine T_letS (fun s12 => ?_)
    refine T_aload_n (pc := 155) 0 dX5_cutUp_155 rfl rfl ?_
    refine T_getA (pc := 156) fd_3_1 hw238 dX5_cutUp_156 ?_
    refine T_iload_n (pc := 159) 2 dX5_cutUp_159 rfl rfl ?_
    refine T_iload (pc := 160) 4 dX5_cutUp_160 rfl ?_
    refine T_iast (pc := 162) rfl dX5_cutUp_162 ?_
    refine T_letS (fun s13 => ?_)
    refine T_iinc (pc := 163) (y := 1) (lv' := [(0, .ref 3), (1, .ref 1), (2, .int (v2 + (1 : Int32))), (3, .int v3), (4, .int v4), (5, .int v5), (6, .int v6), (7, .int t0)]) 2 dX5_cutUp_163 (by decide) rfl (Nat.le_of_ble_eq_true rfl) rfl ?_
    refine T_iload (pc := 166) 6 dX5_cutUp_166 rfl ?_
    refine T_if_eq (pc := 168) 177 dX5_cutUp_168 (by decide) (fun _ => ?_) (fun _ => ?_)
    · refine T_iconst (pc := 177) (v := 0) dX5_cutUp_177 (by decide) ?_
      refine T_istore_n (pc := 178) (lv' := [(0, .ref 3), (1, .ref 1), (2, .int (v2 + (1 : Int32))), (3, .int (0 : Int32)), (4, .int v4), (5, .int v5), (6, .int v6), (7, .int t0)]) dX5_cutUp_178 rfl (Nat.le_of_ble_eq_true rfl) rfl ?_
      refine T_iinc (pc := 179) (y := 1) (lv' := [(0, .ref 3), (1, .ref 1), (2, .int (v2 + (1 : Int32))), (3, .int (0 : Int32)), (4, .int (v4 + (1 : Int32))), (5, .int v5), (6, .int v6), (7, .int t0)]) 4 dX5_cutUp_179 (by decide) rfl (Nat.le_of_ble_eq_true rfl) rfl ?_
      refine T_goto (pc := 182) 7 dX5_cutUp_182 (by decide) ?_
      refine T_pick (lv' := [(0, .ref 3), (1, .ref 1), (2, .int (v2 + (1 : Int32))), (3, .int (0 : Int32)), (4, .int (v4 + (1 : Int32)))]) [0, 1, 2, 3, 4] rfl ?_
      exact hkb s13 (v2 + (1 : Int32)) (0 : Int32) (v4 + (1 : Int32))
    · refine T_iload_n (pc := 171) 3 dX5_cutUp_171 rfl rfl ?_
      refine T_iconst (pc := 172) (v := 1) dX5_cutUp_172 (by decide) ?_
      refine T_iadd (pc := 173) dX5_cutUp_173 ?_
      refine T_goto (pc := 174) 178 dX5_cutUp_174 (by decide) ?_
      refine T_letI (fun x14 => ?_)
      refine T_istore_n (pc := 178) (lv' := [(0, .ref 3), (1, .ref 1), (2, .int (v2 + (1 : Int32))), (3, .int x14), (4, .int v4), (5, .int v5), (6, .int v6), (7, .int t0)]) dX5_cutUp_178 rfl (Nat.le_of_ble_eq_true rfl) rfl ?_
      refine T_iinc (pc := 179) (y := 1) (lv' := [(0, .ref 3), (1, .ref 1), (2, .int (v2 + (1 : Int32))), (3, .int x14), (4, .int (v4 + (1 : Int32))), (5, .int v5), (6, .int v6), (7, .int t0)]) 4 dX5_cutUp_179 (by decide) rfl (Nat.le_of_ble_eq_true rfl) rfl ?_
      refine T_goto (pc := 182) 7 dX5_cutUp_182 (by decide) ?_
      refine T_pick (lv' := [(0, .ref 3), (1, .ref 1), (2, .int (v2 + (1 : Int32))), (3, .int x14), (4, .int (v4 + (1 : Int32)))]) [0, 1, 2, 3, 4] rfl ?_
      exact hkb s13 (v2 + (1 : Int32)) x14 (v4 + (1 : Int32))
set_option maxRecDepth 100000 in
set_option maxHeartbeats 4000000 in
theorem fX5_cutUp_p_J93_T (σ : St) (v2 : Int32) (v3 : Int32) (v4 : Int32) (v5 : Int32) (v6 : Int32) {kb : St → Int32 → Int32 → Int32 → Option St} (hkb : ∀ (σ' : St) (w2 : Int32) (w3 : Int32) (w4 : Int32), T kX5_cutUp_p cSv σ' 7 [(0, .ref 3), (1, .ref 1), (2, .int w2), (3, .int w3), (4, .int w4)] [] (kb σ' w2 w3 w4)) : T kX5_cutUp_p cSv σ 93 [(0, .ref 3), (1, .ref 1), (2, .int v2), (3, .int v3), (4, .int v4), (5, .int v5), (6, .int v6)] [] (fX5_cutUp_p_J93 kb σ v2 v3 v4 v5 v6) := by
  unfold fX5_cutUp_p_J93
  refine T_iload (pc := 93) 5 dX5_cutUp_93 rfl ?_
  refine T_bipush (pc := 95) (v := 32) dX5_cutUp_95 (by decide) ?_
  refine T_icmp_eq (pc := 97) 166 dX5_cutUp_97 (by decide) (fun _ => ?_) (fun _ => ?_)
  · refine T_iload (pc := 166) 6 dX5_cutUp_166 rfl ?_
    refine T_if_eq (pc := 168) 177 dX5_cutUp_168 (by decide) (fun _ => ?_) (fun _ => ?_)
    · refine T_iconst (pc := 177) (v := 0) dX5_cutUp_177 (by decide) ?_
      refine T_istore_n (pc := 178) (lv' := [(0, .ref 3), (1, .ref 1), (2, .int v2), (3, .int (0 : Int32)), (4, .int v4), (5, .int v5), (6, .int v6)]) dX5_cutUp_178 rfl (Nat.le_of_ble_eq_true rfl) rfl ?_
      refine T_iinc (pc := 179) (y := 1) (lv' := [(0, .ref 3), (1, .ref 1), (2, .int v2), (3, .int (0 : Int32)), (4, .int (v4 + (1 : Int32))), (5, .int v5), (6, .int v6)]) 4 dX5_cutUp_179 (by decide) rfl (Nat.le_of_ble_eq_true rfl) rfl ?_
      refine T_goto (pc := 182) 7 dX5_cutUp_182 (by decide) ?_
      refine T_pick (lv' := [(0, .ref 3), (1, .ref 1), (2, .int v2), (3, .int (0 : Int32)), (4, .int (v4 + (1 : Int32)))]) [0, 1, 2, 3, 4] rfl ?_
      exact hkb σ v2 (0 : Int32) (v4 + (1 : Int32))
    · refine T_iload_n (pc := 171) 3 dX5_cutUp_171 rfl rfl ?_
      refine T_iconst (pc := 172) (v := 1) dX5_cutUp_172 (by decide) ?_
      refine T_iadd (pc := 173) dX5_cutUp_173 ?_
      refine T_goto (pc := 174) 178 dX5_cutUp_174 (by decide) ?_
      refine T_letI (fun x4 => ?_)
      refine T_istore_n (pc := 178) (lv' := [(0, .ref 3), (1, .ref 1), (2, .int v2), (3, .int x4), (4, .int v4), (5, .int v5), (6, .int v6)]) dX5_cutUp_178 rfl (Nat.le_of_ble_eq_true rfl) rfl ?_
      refine T_iinc (pc := 179) (y := 1) (lv' := [(0, .ref 3), (1, .ref 1), (2, .int v2), (3, .int x4), (4, .int (v4 + (1 : Int32))), (5, .int v5), (6, .int v6)]) 4 dX5_cutUp_179 (by decide) rfl (Nat.le_of_ble_eq_true rfl) rfl ?_
      refine T_goto (pc := 182) 7 dX5_cutUp_182 (by decide) ?_
      refine T_pick (lv' := [(0, .ref 3), (1, .ref 1), (2, .int v2), (3, .int x4), (4, .int (v4 + (1 : Int32)))]) [0, 1, 2, 3, 4] rfl ?_
      exact hkb σ v2 x4 (v4 + (1 : Int32))
  · refine T_iload (pc := 100) 6 dX5_cutUp_100 rfl ?_
    refine T_if_eq (pc := 102) 113 dX5_cutUp_102 (by decide) (fun _ => ?_) (fun _ => ?_)
    · refine T_iconst (pc := 113) (v := 0) dX5_cutUp_113 (by decide) ?_
      exact fX5_cutUp_p_J114_T (hkb := hkb) σ v2 v3 v4 v5 v6 (0 : Int32)
    · refine T_iload_n (pc := 105) 3 dX5_cutUp_105 rfl rfl ?_
      refine T_if_le (pc := 106) 113 dX5_cutUp_106 (by decide) (fun _ => ?_) (fun _ => ?_)
      · refine T_iconst (pc := 113) (v := 0) dX5_cutUp_113 (by decide) ?_
        exact fX5_cutUp_p_J114_T (hkb := hkb) σ v2 v3 v4 v5 v6 (0 : Int32)
      · refine T_iconst (pc := 109) (v := 1) dX5_cutUp_109 (by decide) ?_
        refine T_goto (pc := 110) 114 dX5_cutUp_110 (by decide) ?_
        exact fX5_cutUp_p_J114_T (hkb := hkb) σ v2 v3 v4 v5 v6 (1 : Int32)
set_option maxRecDepth 100000 in
set_option maxHeartbeats 4000000 in
theorem fX5_cutUp_p_L7_T (σ : St) {k1 : St → Int32 → Option St} {kb : St → Int32 → Int32 → Int32 → Option St} (hk1 : ∀ (σ' : St) (w2 : Int32), T kX5_cutUp_p cSv σ' 185 [(0, .ref 3), (1, .ref 1), (2, .int w2)] [] (k1 σ' w2)) (hkb : ∀ (σ' : St) (w2 : Int32) (w3 : Int32) (w4 : Int32), T kX5_cutUp_p cSv σ' 7 [(0, .ref 3), (1, .ref 1), (2, .int w2), (3, .int w3), (4, .int w4)] [] (kb σ' w2 w3 w4)) (v2 : Int32) (v3 : Int32) (v4 : Int32) : T kX5_cutUp_p cSv σ 7 [(0, .ref 3), (1, .ref 1), (2, .int v2), (3, .int v3), (4, .int v4)] [] (fX5_cutUp_p_L7 k1 kb σ v2 v3 v4) := by
  unfold fX5_cutUp_p_L7
  refine T_iload (pc := 7) 4 dX5_cutUp_7 rfl ?_
  refine T_aload_n (pc := 9) 1 dX5_cutUp_9 rfl rfl ?_
  refine T_callPi (pc := 10) (rest := [.int v4]) (Rn_V (pc := 10) (as := []) (rest := [.int v4]) (ctX9_size σ) rfl rfl mv_X9_size hw515 rfl ⟨Nat.le_of_ble_eq_true rfl, Nat.le_of_ble_eq_true rfl⟩ (Nat.le_of_ble_eq_true rfl) dX5_cutUp_10 rfl) rfl (fun x1 => ?_)
  refine T_icmp_ge (pc := 13) 185 dX5_cutUp_13 (by decide) (fun _ => ?_) (fun _ => ?_)
  · refine T_pick (lv' := [(0, .ref 3), (1, .ref 1), (2, .int v2)]) [0, 1, 2] rfl ?_
    exact hk1 σ v2
  · refine T_iload_n (pc := 16) 2 dX5_cutUp_16 rfl rfl ?_
    refine T_sipush (pc := 17) (v := 200) dX5_cutUp_17 (by decide) ?_
    refine T_icmp_ge (pc := 20) 185 dX5_cutUp_20 (by decide) (fun _ => ?_) (fun _ => ?_)
    · refine T_pick (lv' := [(0, .ref 3), (1, .ref 1), (2, .int v2)]) [0, 1, 2] rfl ?_
      exact hk1 σ v2
    · refine T_aload_n (pc := 23) 1 dX5_cutUp_23 rfl rfl ?_
      refine T_iload (pc := 24) 4 dX5_cutUp_24 rfl ?_
      refine T_callPi (pc := 26) (rest := []) (Rn_V (pc := 26) (as := [.int v4]) (rest := []) (ctX9_at σ v4) rfl rfl mv_X9_at hw516 rfl ⟨Nat.le_of_ble_eq_true rfl, Nat.le_of_ble_eq_true rfl⟩ (Nat.le_of_ble_eq_true rfl) dX5_cutUp_26 rfl) rfl (fun x2 => ?_)
      refine T_istore (pc := 29) (lv' := [(0, .ref 3), (1, .ref 1), (2, .int v2), (3, .int v3), (4, .int v4), (5, .int x2)]) dX5_cutUp_29 (Nat.le_of_ble_eq_true rfl) rfl ?_
      refine T_aload_n (pc := 31) 0 dX5_cutUp_31 rfl rfl ?_
      refine T_iload (pc := 32) 5 dX5_cutUp_32 rfl ?_
      refine T_callPz (pc := 34) (rest := []) (Rn_A (pc := 34) (x := ⟨"CueRolls$Reader", "joins", "(I)Z"⟩) (as := [.int x2]) (rest := []) (ctX3_joins σ x2) rfl rfl mu_X3_Reader_X3_joins hw520 (by decide) rfl ⟨Nat.le_of_ble_eq_true rfl, Nat.le_of_ble_eq_true rfl⟩ (Nat.le_of_ble_eq_true rfl) dX5_cutUp_34 rfl) rfl (fun x3 => ?_)
      refine T_istore (pc := 37) (lv' := [(0, .ref 3), (1, .ref 1), (2, .int v2), (3, .int v3), (4, .int v4), (5, .int x2), (6, .int (bi x3))]) dX5_cutUp_37 (Nat.le_of_ble_eq_true rfl) rfl ?_
      refine T_iload (pc := 39) 6 dX5_cutUp_39 rfl ?_
      refine T_if_eq (pc := 41) 93 dX5_cutUp_41 (by decide) (fun _ => ?_) (fun _ => ?_)
      · exact fX5_cutUp_p_J93_T (hkb := hkb) σ v2 v3 v4 x2 (bi x3)
      · refine T_iload_n (pc := 44) 3 dX5_cutUp_44 rfl rfl ?_
        refine T_if_le (pc := 45) 93 dX5_cutUp_45 (by decide) (fun _ => ?_) (fun _ => ?_)
        · exact fX5_cutUp_p_J93_T (hkb := hkb) σ v2 v3 v4 x2 (bi x3)
        · refine T_iload_n (pc := 48) 3 dX5_cutUp_48 rfl rfl ?_
          refine T_aload_n (pc := 49) 0 dX5_cutUp_49 rfl rfl ?_
          refine T_callPi (pc := 50) (rest := [.int v3]) (Rn_A (pc := 50) (x := ⟨"CueRolls$Reader", "mostJoined", "()I"⟩) (as := []) (rest := [.int v3]) (ctX3_mostJoined σ) rfl rfl mu_X3_Reader_X3_mostJoined hw532 (by decide) rfl ⟨Nat.le_of_ble_eq_true rfl, Nat.le_of_ble_eq_true rfl⟩ (Nat.le_of_ble_eq_true rfl) dX5_cutUp_50 rfl) rfl (fun x15 => ?_)
          refine T_icmp_ge (pc := 53) 93 dX5_cutUp_53 (by decide) (fun _ => ?_) (fun _ => ?_)
          · exact fX5_cutUp_p_J93_T (hkb := hkb) σ v2 v3 v4 x2 (bi x3)
          · refine T_iload_n (pc := 56) 2 dX5_cutUp_56 rfl rfl ?_
            refine T_if_le (pc := 57) 93 dX5_cutUp_57 (by decide) (fun _ => ?_) (fun _ => ?_)
            · exact fX5_cutUp_p_J93_T (hkb := hkb) σ v2 v3 v4 x2 (bi x3)
            · refine T_aload_n (pc := 60) 0 dX5_cutUp_60 rfl rfl ?_
              refine T_getA (pc := 61) fd_3_0 hw237 dX5_cutUp_61 ?_
              refine T_iload_n (pc := 64) 2 dX5_cutUp_64 rfl rfl ?_
              refine T_iconst (pc := 65) (v := 1) dX5_cutUp_65 (by decide) ?_
              refine T_isub (pc := 66) dX5_cutUp_66 ?_
              refine T_ldc2 (pc := 67) hw544 dX5_cutUp_67 ?_
              refine T_aload_n (pc := 70) 0 dX5_cutUp_70 rfl rfl ?_
              refine T_aload_n (pc := 71) 0 dX5_cutUp_71 rfl rfl ?_
              refine T_getA (pc := 72) fd_3_0 hw237 dX5_cutUp_72 ?_
              refine T_iload_n (pc := 75) 2 dX5_cutUp_75 rfl rfl ?_
              refine T_iconst (pc := 76) (v := 1) dX5_cutUp_76 (by decide) ?_
              refine T_isub (pc := 77) dX5_cutUp_77 ?_
              refine T_lald (pc := 78) rfl dX5_cutUp_78 (fun x16 => ?_)
              refine T_ldc2 (pc := 79) hw544 dX5_cutUp_79 ?_
              refine T_lsub (pc := 82) dX5_cutUp_82 ?_
              refine T_iload (pc := 83) 5 dX5_cutUp_83 rfl ?_
              refine T_callPl (pc := 85) (rest := [.long (1000 : Int64), .int (v2 - (1 : Int32)), .ref 18]) (Rn_A (pc := 85) (x := ⟨"CueRolls$Reader", "grown", "(JI)J"⟩) (as := [.long (x16 - (1000 : Int64)), .int x2]) (rest := [.long (1000 : Int64), .int (v2 - (1 : Int32)), .ref 18]) (ctX3_grown σ (x16 - (1000 : Int64)) x2) rfl rfl mu_X3_Reader_X3_grown hw545 (by decide) rfl ⟨Nat.le_of_ble_eq_true rfl, Nat.le_of_ble_eq_true rfl⟩ (Nat.le_of_ble_eq_true rfl) dX5_cutUp_85 rfl) rfl (fun x17 => ?_)
              refine T_ladd (pc := 88) dX5_cutUp_88 ?_
              refine T_last (pc := 89) rfl dX5_cutUp_89 ?_
              refine T_letS (fun s18 => ?_)
              refine T_goto (pc := 90) 166 dX5_cutUp_90 (by decide) ?_
              refine T_iload (pc := 166) 6 dX5_cutUp_166 rfl ?_
              refine T_if_eq (pc := 168) 177 dX5_cutUp_168 (by decide) (fun _ => ?_) (fun _ => ?_)
              · refine T_iconst (pc := 177) (v := 0) dX5_cutUp_177 (by decide) ?_
                refine T_istore_n (pc := 178) (lv' := [(0, .ref 3), (1, .ref 1), (2, .int v2), (3, .int (0 : Int32)), (4, .int v4), (5, .int x2), (6, .int (bi x3))]) dX5_cutUp_178 rfl (Nat.le_of_ble_eq_true rfl) rfl ?_
                refine T_iinc (pc := 179) (y := 1) (lv' := [(0, .ref 3), (1, .ref 1), (2, .int v2), (3, .int (0 : Int32)), (4, .int (v4 + (1 : Int32))), (5, .int x2), (6, .int (bi x3))]) 4 dX5_cutUp_179 (by decide) rfl (Nat.le_of_ble_eq_true rfl) rfl ?_
                refine T_goto (pc := 182) 7 dX5_cutUp_182 (by decide) ?_
                refine T_pick (lv' := [(0, .ref 3), (1, .ref 1), (2, .int v2), (3, .int (0 : Int32)), (4, .int (v4 + (1 : Int32)))]) [0, 1, 2, 3, 4] rfl ?_
                exact hkb s18 v2 (0 : Int32) (v4 + (1 : Int32))
              · refine T_iload_n (pc := 171) 3 dX5_cutUp_171 rfl rfl ?_
                refine T_iconst (pc := 172) (v := 1) dX5_cutUp_172 (by decide) ?_
                refine T_iadd (pc := 173) dX5_cutUp_173 ?_
                refine T_goto (pc := 174) 178 dX5_cutUp_174 (by decide) ?_
                refine T_letI (fun x19 => ?_)
                refine T_istore_n (pc := 178) (lv' := [(0, .ref 3), (1, .ref 1), (2, .int v2), (3, .int x19), (4, .int v4), (5, .int x2), (6, .int (bi x3))]) dX5_cutUp_178 rfl (Nat.le_of_ble_eq_true rfl) rfl ?_
                refine T_iinc (pc := 179) (y := 1) (lv' := [(0, .ref 3), (1, .ref 1), (2, .int v2), (3, .int x19), (4, .int (v4 + (1 : Int32))), (5, .int x2), (6, .int (bi x3))]) 4 dX5_cutUp_179 (by decide) rfl (Nat.le_of_ble_eq_true rfl) rfl ?_
                refine T_goto (pc := 182) 7 dX5_cutUp_182 (by decide) ?_
                refine T_pick (lv' := [(0, .ref 3), (1, .ref 1), (2, .int v2), (3, .int x19), (4, .int (v4 + (1 : Int32)))]) [0, 1, 2, 3, 4] rfl ?_
                exact hkb s18 v2 x19 (v4 + (1 : Int32))
set_option maxRecDepth 100000 in
set_option maxHeartbeats 4000000 in
theorem fX5_cutUp_p_P7_T (σ : St) {k1 : St → Int32 → Option St} (hk1 : ∀ (σ' : St) (w2 : Int32), T kX5_cutUp_p cSv σ' 185 [(0, .ref 3), (1, .ref 1), (2, .int w2)] [] (k1 σ' w2)) (v2 : Int32) (v3 : Int32) (v4 : Int32) : T kX5_cutUp_p cSv σ 7 [(0, .ref 3), (1, .ref 1), (2, .int v2), (3, .int v3), (4, .int v4)] [] (fX5_cutUp_p_P7 k1 σ v2 v3 v4) :=
  it_T (S := (fun t : St × Int32 × Int32 × Int32 => t.1)) (lv := fun t : St × Int32 × Int32 × Int32 => [(0, .ref 3), (1, .ref 1), (2, .int t.2.1), (3, .int t.2.2.1), (4, .int t.2.2.2)]) (st := fun _ => []) (fun kb hkb t => fX5_cutUp_p_L7_T (hk1 := hk1) (hkb := fun σ v2 v3 v4 => hkb (σ, v2, v3, v4)) t.1 t.2.1 t.2.2.1 t.2.2.2) FU (σ, v2, v3, v4)
set_option maxRecDepth 100000 in
set_option maxHeartbeats 4000000 in
theorem ctX5_cutUp_p (σ : St) : Ct yX5_cutUp kX5_cutUp_p [.ref 3, .ref 1] σ cSv (fX5_cutUp_p σ) := by
  refine Ct.of (by decide +kernel) rfl rfl (Nat.le_of_ble_eq_true rfl) ?_
  unfold fX5_cutUp_p
  show T _ _ _ 0 [(0, .ref 3), (1, .ref 1)] [] _
  refine T_iconst (pc := 0) (v := 0) dX5_cutUp_0 (by decide) ?_
  refine T_istore_n (pc := 1) (lv' := [(0, .ref 3), (1, .ref 1), (2, .int (0 : Int32))]) dX5_cutUp_1 rfl (Nat.le_of_ble_eq_true rfl) rfl ?_
  refine T_iconst (pc := 2) (v := 0) dX5_cutUp_2 (by decide) ?_
  refine T_istore_n (pc := 3) (lv' := [(0, .ref 3), (1, .ref 1), (2, .int (0 : Int32)), (3, .int (0 : Int32))]) dX5_cutUp_3 rfl (Nat.le_of_ble_eq_true rfl) rfl ?_
  refine T_iconst (pc := 4) (v := 0) dX5_cutUp_4 (by decide) ?_
  refine T_istore (pc := 5) (lv' := [(0, .ref 3), (1, .ref 1), (2, .int (0 : Int32)), (3, .int (0 : Int32)), (4, .int (0 : Int32))]) dX5_cutUp_5 (Nat.le_of_ble_eq_true rfl) rfl ?_
  refine fX5_cutUp_p_P7_T (hk1 := fun s20 x21 => ?_) σ (0 : Int32) (0 : Int32) (0 : Int32)
  · refine T_aload_n (pc := 185) 0 dX5_cutUp_185 rfl rfl ?_
    refine T_getA (pc := 186) fd_3_0 hw237 dX5_cutUp_186 ?_
    refine T_iload_n (pc := 189) 2 dX5_cutUp_189 rfl rfl ?_
    refine T_ldc2 (pc := 190) hw563 dX5_cutUp_190 ?_
    refine T_last (pc := 193) rfl dX5_cutUp_193 ?_
    refine T_letS (fun s22 => ?_)
    refine T_aload_n (pc := 194) 0 dX5_cutUp_194 rfl rfl ?_
    refine T_getA (pc := 195) fd_3_1 hw238 dX5_cutUp_195 ?_
    refine T_iload_n (pc := 198) 2 dX5_cutUp_198 rfl rfl ?_
    refine T_aload_n (pc := 199) 1 dX5_cutUp_199 rfl rfl ?_
    refine T_callPi (pc := 200) (rest := [.int x21, .ref 19]) (Rn_V (pc := 200) (as := []) (rest := [.int x21, .ref 19]) (ctX9_size s22) rfl rfl mv_X9_size hw515 rfl ⟨Nat.le_of_ble_eq_true rfl, Nat.le_of_ble_eq_true rfl⟩ (Nat.le_of_ble_eq_true rfl) dX5_cutUp_200 rfl) rfl (fun x23 => ?_)
    refine T_iast (pc := 203) rfl dX5_cutUp_203 ?_
    refine T_letS (fun s24 => ?_)
    exact T_return (pc := 204) rfl dX5_cutUp_204 rfl
set_option maxRecDepth 100000 in
set_option maxHeartbeats 4000000 in
theorem ctX5_begin_p_18 (σ : St) : Ct yX5_begin kX5_begin_p_18 [.ref 3, .ref 18] σ cSv (fX5_begin_p_18 σ) := by
  refine Ct.of (by decide +kernel) rfl rfl (Nat.le_of_ble_eq_true rfl) ?_
  unfold fX5_begin_p_18
  show T _ _ _ 0 [(0, .ref 3), (1, .ref 18)] [] _
  refine T_aload_n (pc := 0) 0 dX5_begin_0 rfl rfl ?_
  refine T_aload_n (pc := 1) 1 dX5_begin_1 rfl rfl ?_
  refine T_putR (pc := 2) fd_3_2 hw239 dX5_begin_2 rfl ?_
  refine T_letS (fun s1 => ?_)
  refine T_aload_n (pc := 5) 0 dX5_begin_5 rfl rfl ?_
  refine T_iconst (pc := 6) (v := 0) dX5_begin_6 (by decide) ?_
  refine T_putI (pc := 7) fd_3_3 hw240 dX5_begin_7 ?_
  refine T_letS (fun s2 => ?_)
  refine T_aload_n (pc := 10) 0 dX5_begin_10 rfl rfl ?_
  refine T_iconst (pc := 11) (v := -1) dX5_begin_11 (by decide) ?_
  refine T_putI (pc := 12) fd_3_4 hw241 dX5_begin_12 ?_
  refine T_letS (fun s3 => ?_)
  exact T_return (pc := 15) rfl dX5_begin_15 rfl
set_option maxRecDepth 100000 in
set_option maxHeartbeats 4000000 in
theorem ctX5_sign_p (σ : St) : Ct yX5_sign kX5_sign_p [.ref 3] σ (cPi σ) (fX5_sign_p σ) := by
  refine Ct.of (by decide +kernel) rfl rfl (Nat.le_of_ble_eq_true rfl) ?_
  unfold fX5_sign_p
  show T _ _ _ 0 [(0, .ref 3)] [] _
  refine T_aload_n (pc := 0) 0 dX5_sign_0 rfl rfl ?_
  refine T_getI (pc := 1) fd_3_4 hw241 dX5_sign_1 ?_
  refine T_iconst (pc := 4) (v := -1) dX5_sign_4 (by decide) ?_
  refine T_icmp_ne (pc := 5) 34 dX5_sign_5 (by decide) (fun _ => ?_) (fun _ => ?_)
  · refine T_sipush (pc := 34) (v := 257) dX5_sign_34 (by decide) ?_
    exact T_ireturn (pc := 37) rfl dX5_sign_37 rfl
  · refine T_aload_n (pc := 8) 0 dX5_sign_8 rfl rfl ?_
    refine T_getR (pc := 9) fd_3_2 hw239 dX5_sign_9 ?_
    refine T_ifnull_r (pc := 12) dX5_sign_12 ?_
    refine T_aload_n (pc := 15) 0 dX5_sign_15 rfl rfl ?_
    refine T_getI (pc := 16) fd_3_3 hw240 dX5_sign_16 ?_
    refine T_if_lt (pc := 19) 34 dX5_sign_19 (by decide) (fun _ => ?_) (fun _ => ?_)
    · refine T_sipush (pc := 34) (v := 257) dX5_sign_34 (by decide) ?_
      exact T_ireturn (pc := 37) rfl dX5_sign_37 rfl
    · refine T_aload_n (pc := 22) 0 dX5_sign_22 rfl rfl ?_
      refine T_getI (pc := 23) fd_3_3 hw240 dX5_sign_23 ?_
      refine T_aload_n (pc := 26) 0 dX5_sign_26 rfl rfl ?_
      refine T_getR (pc := 27) fd_3_2 hw239 dX5_sign_27 ?_
      refine T_alenX (pc := 30) dX5_sign_30 ?_
      refine T_icmp_lt (pc := 31) 38 dX5_sign_31 (by decide) (fun _ => ?_) (fun _ => ?_)
      · refine T_aload_n (pc := 38) 0 dX5_sign_38 rfl rfl ?_
        refine T_getR (pc := 39) fd_3_2 hw239 dX5_sign_39 ?_
        refine T_aload_n (pc := 42) 0 dX5_sign_42 rfl rfl ?_
        refine T_getI (pc := 43) fd_3_3 hw240 dX5_sign_43 ?_
        refine T_laldX (pc := 46) dX5_sign_46 (fun x1 => ?_)
        refine T_ldc2 (pc := 47) hw544 dX5_sign_47 ?_
        refine T_lcmp (pc := 50) dX5_sign_50 ?_
        refine T_if_lt (pc := 51) 60 dX5_sign_51 (by decide) (fun _ => ?_) (fun _ => ?_)
        · refine T_aload_n (pc := 60) 0 dX5_sign_60 rfl rfl ?_
          refine T_getR (pc := 61) fd_3_2 hw239 dX5_sign_61 ?_
          refine T_aload_n (pc := 64) 0 dX5_sign_64 rfl rfl ?_
          refine T_getI (pc := 65) fd_3_3 hw240 dX5_sign_65 ?_
          refine T_laldX (pc := 68) dX5_sign_68 (fun x2 => ?_)
          refine T_l2i (pc := 69) dX5_sign_69 ?_
          exact T_ireturn (pc := 70) rfl dX5_sign_70 rfl
        · refine T_sipush (pc := 54) (v := 1000) dX5_sign_54 (by decide) ?_
          refine T_goto (pc := 57) 70 dX5_sign_57 (by decide) ?_
          exact T_ireturn (pc := 70) rfl dX5_sign_70 rfl
      · refine T_sipush (pc := 34) (v := 257) dX5_sign_34 (by decide) ?_
        exact T_ireturn (pc := 37) rfl dX5_sign_37 rfl
set_option maxRecDepth 100000 in
set_option maxHeartbeats 4000000 in
theorem ctX5_step_p (σ : St) : Ct yX5_step kX5_step_p [.ref 3] σ cSv (fX5_step_p σ) := by
  refine Ct.of (by decide +kernel) rfl rfl (Nat.le_of_ble_eq_true rfl) ?_
  unfold fX5_step_p
  show T _ _ _ 0 [(0, .ref 3)] [] _
  refine T_aload_n (pc := 0) 0 dX5_step_0 rfl rfl ?_
  refine T_dup_a (pc := 1) dX5_step_1 ?_
  refine T_getI (pc := 2) fd_3_3 hw240 dX5_step_2 ?_
  refine T_iconst (pc := 5) (v := 1) dX5_step_5 (by decide) ?_
  refine T_iadd (pc := 6) dX5_step_6 ?_
  refine T_putI (pc := 7) fd_3_3 hw240 dX5_step_7 ?_
  refine T_letS (fun s1 => ?_)
  exact T_return (pc := 10) rfl dX5_step_10 rfl
set_option maxRecDepth 100000 in
set_option maxHeartbeats 4000000 in
theorem ctX5_spoil_p (σ : St) : Ct yX5_spoil kX5_spoil_p [.ref 3] σ cSv (fX5_spoil_p σ) := by
  refine Ct.of (by decide +kernel) rfl rfl (Nat.le_of_ble_eq_true rfl) ?_
  unfold fX5_spoil_p
  show T _ _ _ 0 [(0, .ref 3)] [] _
  refine T_aload_n (pc := 0) 0 dX5_spoil_0 rfl rfl ?_
  refine T_getI (pc := 1) fd_3_4 hw241 dX5_spoil_1 ?_
  refine T_iconst (pc := 4) (v := -1) dX5_spoil_4 (by decide) ?_
  refine T_icmp_ne (pc := 5) 40 dX5_spoil_5 (by decide) (fun _ => ?_) (fun _ => ?_)
  · exact T_return (pc := 40) rfl dX5_spoil_40 rfl
  · refine T_aload_n (pc := 8) 0 dX5_spoil_8 rfl rfl ?_
    refine T_getI (pc := 9) fd_3_3 hw240 dX5_spoil_9 ?_
    refine T_if_lt (pc := 12) 40 dX5_spoil_12 (by decide) (fun _ => ?_) (fun _ => ?_)
    · exact T_return (pc := 40) rfl dX5_spoil_40 rfl
    · refine T_aload_n (pc := 15) 0 dX5_spoil_15 rfl rfl ?_
      refine T_getI (pc := 16) fd_3_3 hw240 dX5_spoil_16 ?_
      refine T_aload_n (pc := 19) 0 dX5_spoil_19 rfl rfl ?_
      refine T_getA (pc := 20) fd_3_1 hw238 dX5_spoil_20 ?_
      refine T_alen (pc := 23) (v := 201) rfl (by decide) dX5_spoil_23 ?_
      refine T_icmp_ge (pc := 24) 40 dX5_spoil_24 (by decide) (fun _ => ?_) (fun _ => ?_)
      · exact T_return (pc := 40) rfl dX5_spoil_40 rfl
      · refine T_aload_n (pc := 27) 0 dX5_spoil_27 rfl rfl ?_
        refine T_aload_n (pc := 28) 0 dX5_spoil_28 rfl rfl ?_
        refine T_getA (pc := 29) fd_3_1 hw238 dX5_spoil_29 ?_
        refine T_aload_n (pc := 32) 0 dX5_spoil_32 rfl rfl ?_
        refine T_getI (pc := 33) fd_3_3 hw240 dX5_spoil_33 ?_
        refine T_iald (pc := 36) rfl dX5_spoil_36 (fun x1 => ?_)
        refine T_putI (pc := 37) fd_3_4 hw241 dX5_spoil_37 ?_
        refine T_letS (fun s2 => ?_)
        exact T_return (pc := 40) rfl dX5_spoil_40 rfl
