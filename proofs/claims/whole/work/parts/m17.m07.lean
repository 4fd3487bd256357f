/-! methods X11_first .. X7_fill: by program (wip/gen) -/
set_option maxRecDepth 100000 in
set_option maxHeartbeats 4000000 in
theorem ctX11_first (σ : St) (p0 : Int32) (p1 : Int32) : Ct yX11_first kX11_first [.ref 0, .int p0, .int p1] σ cSi (fX11_first σ p0 p1) := by
  refine Ct.of (by decide +kernel) rfl rfl (Nat.le_of_ble_eq_true rfl) ?_
  unfold fX11_first
  show T _ _ _ 0 [(0, .ref 0), (1, .int p0), (2, .int p1)] [] _
  refine T_aload_n (pc := 0) 0 dX11_first_0 rfl rfl ?_
  refine T_getA (pc := 1) fd_0_6 hw445 dX11_first_1 ?_
  refine T_iload_n (pc := 4) 1 dX11_first_4 rfl rfl ?_
  refine T_callSz (pc := 5) (rest := []) (Rn_V (pc := 5) (as := [.int p0]) (rest := []) (ctX2_areTold σ p0) rfl rfl mv_X2_areTold hw924 rfl ⟨Nat.le_of_ble_eq_true rfl, Nat.le_of_ble_eq_true rfl⟩ (Nat.le_of_ble_eq_true rfl) dX11_first_5 rfl) rfl (fun r1 => ?_)
  refine T_if_eq (pc := 8) 22 dX11_first_8 (by decide) (fun _ => ?_) (fun _ => ?_)
  · refine T_iconst (pc := 22) (v := -1) dX11_first_22 (by decide) ?_
    exact T_ireturn (pc := 23) rfl dX11_first_23 rfl
  · refine T_aload_n (pc := 11) 0 dX11_first_11 rfl rfl ?_
    refine T_getA (pc := 12) fd_0_6 hw445 dX11_first_12 ?_
    refine T_iload_n (pc := 15) 2 dX11_first_15 rfl rfl ?_
    refine T_callSi (pc := 16) (rest := []) (Rn_V (pc := 16) (as := [.int p1]) (rest := []) (ctX2_firstAt r1.2 p1) rfl rfl mv_X2_firstAt hw1013 rfl ⟨Nat.le_of_ble_eq_true rfl, Nat.le_of_ble_eq_true rfl⟩ (Nat.le_of_ble_eq_true rfl) dX11_first_16 rfl) rfl (fun r2 => ?_)
    refine T_goto (pc := 19) 23 dX11_first_19 (by decide) ?_
    exact T_ireturn (pc := 23) rfl dX11_first_23 rfl
set_option maxRecDepth 100000 in
set_option maxHeartbeats 4000000 in
theorem ctX7_setHabit (σ : St) (p0 : Int32) (p1 : Int32) : Ct yX7_setHabit kX7_setHabit [.ref 5, .int p0, .int p1] σ cSv (fX7_setHabit σ p0 p1) := by
  refine Ct.of (by decide +kernel) rfl rfl (Nat.le_of_ble_eq_true rfl) ?_
  unfold fX7_setHabit
  show T _ _ _ 0 [(0, .ref 5), (1, .int p0), (2, .int p1)] [] _
  refine T_aload_n (pc := 0) 0 dX7_setHabit_0 rfl rfl ?_
  refine T_iload_n (pc := 1) 1 dX7_setHabit_1 rfl rfl ?_
  refine T_callPz (pc := 2) (rest := []) (Rn_V (pc := 2) (as := [.int p0]) (rest := []) (ctX7_hasRoll σ p0) rfl rfl mv_X7_hasRoll hw1328 rfl ⟨Nat.le_of_ble_eq_true rfl, Nat.le_of_ble_eq_true rfl⟩ (Nat.le_of_ble_eq_true rfl) dX7_setHabit_2 rfl) rfl (fun x1 => ?_)
  refine T_if_eq (pc := 5) 15 dX7_setHabit_5 (by decide) (fun _ => ?_) (fun _ => ?_)
  · exact T_return (pc := 15) rfl dX7_setHabit_15 rfl
  · refine T_aload_n (pc := 8) 0 dX7_setHabit_8 rfl rfl ?_
    refine T_getA (pc := 9) fd_5_1 hw148 dX7_setHabit_9 ?_
    refine T_iload_n (pc := 12) 1 dX7_setHabit_12 rfl rfl ?_
    refine T_iload_n (pc := 13) 2 dX7_setHabit_13 rfl rfl ?_
    refine T_iast (pc := 14) rfl dX7_setHabit_14 ?_
    refine T_letS (fun s2 => ?_)
    exact T_return (pc := 15) rfl dX7_setHabit_15 rfl
set_option maxRecDepth 100000 in
set_option maxHeartbeats 4000000 in
theorem ctX1_has (σ : St) (p0 : Int32) : Ct yX1_has kX1_has [.ref 4, .int p0] σ (cPz σ) (fX1_has σ p0) := by
  refine Ct.of (by decide +kernel) rfl rfl (Nat.le_of_ble_eq_true rfl) ?_
  unfold fX1_has
  show T _ _ _ 0 [(0, .ref 4), (1, .int p0)] [] _
  refine T_iload_n (pc := 0) 1 dX1_has_0 rfl rfl ?_
  refine T_if_lt (pc := 1) 25 dX1_has_1 (by decide) (fun _ => ?_) (fun _ => ?_)
  · refine T_iconst (pc := 25) (v := 0) dX1_has_25 (by decide) ?_
    exact T_zreturn (pc := 26) false rfl dX1_has_26 rfl rfl
  · refine T_iload_n (pc := 4) 1 dX1_has_4 rfl rfl ?_
    refine T_aload_n (pc := 5) 0 dX1_has_5 rfl rfl ?_
    refine T_getI (pc := 6) fd_4_6 hw290 dX1_has_6 ?_
    refine T_icmp_ge (pc := 9) 25 dX1_has_9 (by decide) (fun _ => ?_) (fun _ => ?_)
    · refine T_iconst (pc := 25) (v := 0) dX1_has_25 (by decide) ?_
      exact T_zreturn (pc := 26) false rfl dX1_has_26 rfl rfl
    · refine T_iload_n (pc := 12) 1 dX1_has_12 rfl rfl ?_
      refine T_aload_n (pc := 13) 0 dX1_has_13 rfl rfl ?_
      refine T_getA (pc := 14) fd_4_5 hw289 dX1_has_14 ?_
      refine T_alenQ (pc := 17) rfl dX1_has_17 ?_
      refine T_icmp_ge (pc := 18) 25 dX1_has_18 (by decide) (fun _ => ?_) (fun _ => ?_)
      · refine T_iconst (pc := 25) (v := 0) dX1_has_25 (by decide) ?_
        exact T_zreturn (pc := 26) false rfl dX1_has_26 rfl rfl
      · refine T_iconst (pc := 21) (v := 1) dX1_has_21 (by decide) ?_
        refine T_goto (pc := 22) 26 dX1_has_22 (by decide) ?_
        exact T_zreturn (pc := 26) true rfl dX1_has_26 rfl rfl
set_option maxRecDepth 100000 in
set_option maxHeartbeats 4000000 in
theorem ctX11_habit (σ : St) (p0 : Int32) (p1 : Int32) : Ct yX11_habit kX11_habit [.ref 0, .int p0, .int p1] σ cSz (fX11_habit σ p0 p1) := by
  refine Ct.of (by decide +kernel) rfl rfl (Nat.le_of_ble_eq_true rfl) ?_
  unfold fX11_habit
  show T _ _ _ 0 [(0, .ref 0), (1, .int p0), (2, .int p1)] [] _
  refine T_aload_n (pc := 0) 0 dX11_habit_0 rfl rfl ?_
  refine T_getA (pc := 1) fd_0_4 hw443 dX11_habit_1 ?_
  refine T_iload_n (pc := 4) 1 dX11_habit_4 rfl rfl ?_
  refine T_callPz (pc := 5) (rest := []) (Rn_V (pc := 5) (as := [.int p0]) (rest := []) (ctX7_hasRoll σ p0) rfl rfl mv_X7_hasRoll hw782 rfl ⟨Nat.le_of_ble_eq_true rfl, Nat.le_of_ble_eq_true rfl⟩ (Nat.le_of_ble_eq_true rfl) dX11_habit_5 rfl) rfl (fun x1 => ?_)
  refine T_if_eq (pc := 8) 27 dX11_habit_8 (by decide) (fun _ => ?_) (fun _ => ?_)
  · refine T_iconst (pc := 27) (v := 0) dX11_habit_27 (by decide) ?_
    exact T_zreturn (pc := 28) false rfl dX11_habit_28 rfl rfl
  · refine T_iload_n (pc := 11) 2 dX11_habit_11 rfl rfl ?_
    refine T_iconst (pc := 12) (v := -1) dX11_habit_12 (by decide) ?_
    refine T_icmp_eq (pc := 13) 29 dX11_habit_13 (by decide) (fun _ => ?_) (fun _ => ?_)
    · refine T_aload_n (pc := 29) 0 dX11_habit_29 rfl rfl ?_
      refine T_getA (pc := 30) fd_0_4 hw443 dX11_habit_30 ?_
      refine T_iload_n (pc := 33) 1 dX11_habit_33 rfl rfl ?_
      refine T_iload_n (pc := 34) 2 dX11_habit_34 rfl rfl ?_
      refine T_callSv (pc := 35) (rest := []) (Rn_V (pc := 35) (as := [.int p0, .int p1]) (rest := []) (ctX7_setHabit σ p0 p1) rfl rfl mv_X7_setHabit hw1324 rfl ⟨Nat.le_of_ble_eq_true rfl, Nat.le_of_ble_eq_true rfl⟩ (Nat.le_of_ble_eq_true rfl) dX11_habit_35 rfl) rfl (fun s2 => ?_)
      refine T_iconst (pc := 38) (v := 1) dX11_habit_38 (by decide) ?_
      exact T_zreturn (pc := 39) true rfl dX11_habit_39 rfl rfl
    · refine T_aload_n (pc := 16) 0 dX11_habit_16 rfl rfl ?_
      refine T_getA (pc := 17) fd_0_3 hw442 dX11_habit_17 ?_
      refine T_iload_n (pc := 20) 2 dX11_habit_20 rfl rfl ?_
      refine T_callPz (pc := 21) (rest := []) (Rn_V (pc := 21) (as := [.int p1]) (rest := []) (ctX1_has σ p1) rfl rfl mv_X1_has hw1320 rfl ⟨Nat.le_of_ble_eq_true rfl, Nat.le_of_ble_eq_true rfl⟩ (Nat.le_of_ble_eq_true rfl) dX11_habit_21 rfl) rfl (fun x3 => ?_)
      refine T_if_ne (pc := 24) 29 dX11_habit_24 (by decide) (fun _ => ?_) (fun _ => ?_)
      · refine T_aload_n (pc := 29) 0 dX11_habit_29 rfl rfl ?_
        refine T_getA (pc := 30) fd_0_4 hw443 dX11_habit_30 ?_
        refine T_iload_n (pc := 33) 1 dX11_habit_33 rfl rfl ?_
        refine T_iload_n (pc := 34) 2 dX11_habit_34 rfl rfl ?_
        refine T_callSv (pc := 35) (rest := []) (Rn_V (pc := 35) (as := [.int p0, .int p1]) (rest := []) (ctX7_setHabit σ p0 p1) rfl rfl mv_X7_setHabit hw1324 rfl ⟨Nat.le_of_ble_eq_true rfl, Nat.le_of_ble_eq_true rfl⟩ (Nat.le_of_ble_eq_true rfl) dX11_habit_35 rfl) rfl (fun s4 => ?_)
        refine T_iconst (pc := 38) (v := 1) dX11_habit_38 (by decide) ?_
        exact T_zreturn (pc := 39) true rfl dX11_habit_39 rfl rfl
      · refine T_iconst (pc := 27) (v := 0) dX11_habit_27 (by decide) ?_
        exact T_zreturn (pc := 28) false rfl dX11_habit_28 rfl rfl
set_option maxRecDepth 100000 in
set_option maxHeartbeats 4000000 in
theorem ctX11_inside (σ : St) (p0 : Int32) (p1 : Int32) : Ct yX11_inside kX11_inside [.ref 0, .int p0, .int p1] σ (cPi σ) (fX11_inside σ p0 p1) := by
  refine Ct.of (by decide +kernel) rfl rfl (Nat.le_of_ble_eq_true rfl) ?_
  unfold fX11_inside
  show T _ _ _ 0 [(0, .ref 0), (1, .int p0), (2, .int p1)] [] _
  refine T_aload_n (pc := 0) 0 dX11_inside_0 rfl rfl ?_
  refine T_getA (pc := 1) fd_0_4 hw443 dX11_inside_1 ?_
  refine T_iload_n (pc := 4) 1 dX11_inside_4 rfl rfl ?_
  refine T_callPz (pc := 5) (rest := []) (Rn_V (pc := 5) (as := [.int p0]) (rest := []) (ctX7_has σ p0) rfl rfl mv_X7_has hw794 rfl ⟨Nat.le_of_ble_eq_true rfl, Nat.le_of_ble_eq_true rfl⟩ (Nat.le_of_ble_eq_true rfl) dX11_inside_5 rfl) rfl (fun x1 => ?_)
  refine T_if_eq (pc := 8) 33 dX11_inside_8 (by decide) (fun _ => ?_) (fun _ => ?_)
  · refine T_iconst (pc := 33) (v := -1) dX11_inside_33 (by decide) ?_
    exact T_ireturn (pc := 34) rfl dX11_inside_34 rfl
  · refine T_aload_n (pc := 11) 0 dX11_inside_11 rfl rfl ?_
    refine T_getA (pc := 12) fd_0_4 hw443 dX11_inside_12 ?_
    refine T_iload_n (pc := 15) 2 dX11_inside_15 rfl rfl ?_
    refine T_callPz (pc := 16) (rest := []) (Rn_V (pc := 16) (as := [.int p1]) (rest := []) (ctX7_has σ p1) rfl rfl mv_X7_has hw794 rfl ⟨Nat.le_of_ble_eq_true rfl, Nat.le_of_ble_eq_true rfl⟩ (Nat.le_of_ble_eq_true rfl) dX11_inside_16 rfl) rfl (fun x2 => ?_)
    refine T_if_eq (pc := 19) 33 dX11_inside_19 (by decide) (fun _ => ?_) (fun _ => ?_)
    · refine T_iconst (pc := 33) (v := -1) dX11_inside_33 (by decide) ?_
      exact T_ireturn (pc := 34) rfl dX11_inside_34 rfl
    · refine T_iload_n (pc := 22) 1 dX11_inside_22 rfl rfl ?_
      refine T_callPi (pc := 23) (rest := []) (Rn_S (pc := 23) (as := [.int p0]) (rest := []) (ctX7_rollOf σ p0) ms_X7_rollOf hw1192 rfl ⟨Nat.le_of_ble_eq_true rfl, Nat.le_of_ble_eq_true rfl⟩ (Nat.le_of_ble_eq_true rfl) dX11_inside_23 rfl) rfl (fun x3 => ?_)
      refine T_iload_n (pc := 26) 2 dX11_inside_26 rfl rfl ?_
      refine T_callPi (pc := 27) (rest := [.int x3]) (Rn_S (pc := 27) (as := [.int p1]) (rest := [.int x3]) (ctX7_rollOf σ p1) ms_X7_rollOf hw1192 rfl ⟨Nat.le_of_ble_eq_true rfl, Nat.le_of_ble_eq_true rfl⟩ (Nat.le_of_ble_eq_true rfl) dX11_inside_27 rfl) rfl (fun x4 => ?_)
      refine T_icmp_ne (pc := 30) 35 dX11_inside_30 (by decide) (fun _ => ?_) (fun _ => ?_)
      · refine T_aload_n (pc := 35) 0 dX11_inside_35 rfl rfl ?_
        refine T_getA (pc := 36) fd_0_5 hw444 dX11_inside_36 ?_
        refine T_iload_n (pc := 39) 1 dX11_inside_39 rfl rfl ?_
        refine T_iload_n (pc := 40) 2 dX11_inside_40 rfl rfl ?_
        refine T_callPi (pc := 41) (rest := []) (Rn_V (pc := 41) (as := [.int p0, .int p1]) (rest := []) (ctX0_within σ p0 p1) rfl rfl mv_X0_within hw1193 rfl ⟨Nat.le_of_ble_eq_true rfl, Nat.le_of_ble_eq_true rfl⟩ (Nat.le_of_ble_eq_true rfl) dX11_inside_41 rfl) rfl (fun x5 => ?_)
        exact T_ireturn (pc := 44) rfl dX11_inside_44 rfl
      · refine T_iconst (pc := 33) (v := -1) dX11_inside_33 (by decide) ?_
        exact T_ireturn (pc := 34) rfl dX11_inside_34 rfl
set_option maxRecDepth 100000 in
set_option maxHeartbeats 4000000 in
theorem ctX11_keep (σ : St) : Ct yX11_keep kX11_keep [.ref 0] σ cSi (fX11_keep σ) := by
  refine Ct.of (by decide +kernel) rfl rfl (Nat.le_of_ble_eq_true rfl) ?_
  unfold fX11_keep
  show T _ _ _ 0 [(0, .ref 0)] [] _
  refine T_aload_n (pc := 0) 0 dX11_keep_0 rfl rfl ?_
  refine T_aload_n (pc := 1) 0 dX11_keep_1 rfl rfl ?_
  refine T_getA (pc := 2) fd_0_4 hw443 dX11_keep_2 ?_
  refine T_callPi (pc := 5) (rest := [.ref 0]) (Rn_V (pc := 5) (as := []) (rest := [.ref 0]) (ctX7_number σ) rfl rfl mv_X7_number hw1384 rfl ⟨Nat.le_of_ble_eq_true rfl, Nat.le_of_ble_eq_true rfl⟩ (Nat.le_of_ble_eq_true rfl) dX11_keep_5 rfl) rfl (fun x1 => ?_)
  refine T_putI (pc := 8) fd_0_9 hw448 dX11_keep_8 ?_
  refine T_letS (fun s2 => ?_)
  refine T_aload_n (pc := 11) 0 dX11_keep_11 rfl rfl ?_
  refine T_aload_n (pc := 12) 0 dX11_keep_12 rfl rfl ?_
  refine T_getA (pc := 13) fd_0_7 hw446 dX11_keep_13 ?_
  refine T_callPi (pc := 16) (rest := [.ref 0]) (Rn_V (pc := 16) (as := []) (rest := [.ref 0]) (ctX8_played s2) rfl rfl mv_X8_played hw1136 rfl ⟨Nat.le_of_ble_eq_true rfl, Nat.le_of_ble_eq_true rfl⟩ (Nat.le_of_ble_eq_true rfl) dX11_keep_16 rfl) rfl (fun x3 => ?_)
  refine T_putI (pc := 19) fd_0_10 hw449 dX11_keep_19 ?_
  refine T_letS (fun s4 => ?_)
  refine T_aload_n (pc := 22) 0 dX11_keep_22 rfl rfl ?_
  refine T_getI (pc := 23) fd_0_9 hw448 dX11_keep_23 ?_
  refine T_aload_n (pc := 26) 0 dX11_keep_26 rfl rfl ?_
  refine T_getI (pc := 27) fd_0_10 hw449 dX11_keep_27 ?_
  refine T_iadd (pc := 30) dX11_keep_30 ?_
  exact T_ireturn (pc := 31) rfl dX11_keep_31 rfl
set_option maxRecDepth 100000 in
set_option maxHeartbeats 4000000 in
theorem ctX11_kind (σ : St) (p0 : Int32) (p1 : Int32) : Ct yX11_kind kX11_kind [.ref 0, .int p0, .int p1] σ cSi (fX11_kind σ p0 p1) := by
  refine Ct.of (by decide +kernel) rfl rfl (Nat.le_of_ble_eq_true rfl) ?_
  unfold fX11_kind
  show T _ _ _ 0 [(0, .ref 0), (1, .int p0), (2, .int p1)] [] _
  refine T_aload_n (pc := 0) 0 dX11_kind_0 rfl rfl ?_
  refine T_getA (pc := 1) fd_0_4 hw443 dX11_kind_1 ?_
  refine T_iload_n (pc := 4) 1 dX11_kind_4 rfl rfl ?_
  refine T_callPz (pc := 5) (rest := []) (Rn_V (pc := 5) (as := [.int p0]) (rest := []) (ctX7_has σ p0) rfl rfl mv_X7_has hw794 rfl ⟨Nat.le_of_ble_eq_true rfl, Nat.le_of_ble_eq_true rfl⟩ (Nat.le_of_ble_eq_true rfl) dX11_kind_5 rfl) rfl (fun x1 => ?_)
  refine T_if_eq (pc := 8) 30 dX11_kind_8 (by decide) (fun _ => ?_) (fun _ => ?_)
  · refine T_iconst (pc := 30) (v := -1) dX11_kind_30 (by decide) ?_
    exact T_ireturn (pc := 31) rfl dX11_kind_31 rfl
  · refine T_aload_n (pc := 11) 0 dX11_kind_11 rfl rfl ?_
    refine T_getA (pc := 12) fd_0_4 hw443 dX11_kind_12 ?_
    refine T_iload_n (pc := 15) 2 dX11_kind_15 rfl rfl ?_
    refine T_callPz (pc := 16) (rest := []) (Rn_V (pc := 16) (as := [.int p1]) (rest := []) (ctX7_haveAll σ p1) rfl rfl mv_X7_haveAll hw865 rfl ⟨Nat.le_of_ble_eq_true rfl, Nat.le_of_ble_eq_true rfl⟩ (Nat.le_of_ble_eq_true rfl) dX11_kind_16 rfl) rfl (fun x2 => ?_)
    refine T_if_eq (pc := 19) 30 dX11_kind_19 (by decide) (fun _ => ?_) (fun _ => ?_)
    · refine T_iconst (pc := 30) (v := -1) dX11_kind_30 (by decide) ?_
      exact T_ireturn (pc := 31) rfl dX11_kind_31 rfl
    · refine T_iload_n (pc := 22) 1 dX11_kind_22 rfl rfl ?_
      refine T_iload_n (pc := 23) 2 dX11_kind_23 rfl rfl ?_
      refine T_callPz (pc := 24) (rest := []) (Rn_S (pc := 24) (as := [.int p0, .int p1]) (rest := []) (ctX7_isOf σ p0 p1) ms_X7_isOf hw869 rfl ⟨Nat.le_of_ble_eq_true rfl, Nat.le_of_ble_eq_true rfl⟩ (Nat.le_of_ble_eq_true rfl) dX11_kind_24 rfl) rfl (fun x3 => ?_)
      refine T_if_ne (pc := 27) 32 dX11_kind_27 (by decide) (fun _ => ?_) (fun _ => ?_)
      · refine T_aload_n (pc := 32) 0 dX11_kind_32 rfl rfl ?_
        refine T_getA (pc := 33) fd_0_5 hw444 dX11_kind_33 ?_
        refine T_iload_n (pc := 36) 1 dX11_kind_36 rfl rfl ?_
        refine T_iload_n (pc := 37) 2 dX11_kind_37 rfl rfl ?_
        refine T_callSi (pc := 38) (rest := []) (Rn_V (pc := 38) (as := [.int p0, .int p1]) (rest := []) (ctX0_kindOf σ p0 p1) rfl rfl mv_X0_kindOf hw875 rfl ⟨Nat.le_of_ble_eq_true rfl, Nat.le_of_ble_eq_true rfl⟩ (Nat.le_of_ble_eq_true rfl) dX11_kind_38 rfl) rfl (fun r4 => ?_)
        exact T_ireturn (pc := 41) rfl dX11_kind_41 rfl
      · refine T_iconst (pc := 30) (v := -1) dX11_kind_30 (by decide) ?_
        exact T_ireturn (pc := 31) rfl dX11_kind_31 rfl
set_option maxRecDepth 100000 in
set_option maxHeartbeats 4000000 in
theorem ctX11_kinds (σ : St) (p0 : Int32) (p1 : Int32) : Ct yX11_kinds kX11_kinds [.ref 0, .int p0, .int p1] σ cSi (fX11_kinds σ p0 p1) := by
  refine Ct.of (by decide +kernel) rfl rfl (Nat.le_of_ble_eq_true rfl) ?_
  unfold fX11_kinds
  show T _ _ _ 0 [(0, .ref 0), (1, .int p0), (2, .int p1)] [] _
  refine T_aload_n (pc := 0) 0 dX11_kinds_0 rfl rfl ?_
  refine T_getA (pc := 1) fd_0_4 hw443 dX11_kinds_1 ?_
  refine T_iload_n (pc := 4) 1 dX11_kinds_4 rfl rfl ?_
  refine T_callPz (pc := 5) (rest := []) (Rn_V (pc := 5) (as := [.int p0]) (rest := []) (ctX7_haveAll σ p0) rfl rfl mv_X7_haveAll hw865 rfl ⟨Nat.le_of_ble_eq_true rfl, Nat.le_of_ble_eq_true rfl⟩ (Nat.le_of_ble_eq_true rfl) dX11_kinds_5 rfl) rfl (fun x1 => ?_)
  refine T_if_eq (pc := 8) 20 dX11_kinds_8 (by decide) (fun _ => ?_) (fun _ => ?_)
  · refine T_iconst (pc := 20) (v := -1) dX11_kinds_20 (by decide) ?_
    exact T_ireturn (pc := 21) rfl dX11_kinds_21 rfl
  · refine T_iload_n (pc := 11) 2 dX11_kinds_11 rfl rfl ?_
    refine T_if_lt (pc := 12) 20 dX11_kinds_12 (by decide) (fun _ => ?_) (fun _ => ?_)
    · refine T_iconst (pc := 20) (v := -1) dX11_kinds_20 (by decide) ?_
      exact T_ireturn (pc := 21) rfl dX11_kinds_21 rfl
    · refine T_iload_n (pc := 15) 2 dX11_kinds_15 rfl rfl ?_
      refine T_iconst (pc := 16) (v := 5) dX11_kinds_16 (by decide) ?_
      refine T_icmp_le (pc := 17) 22 dX11_kinds_17 (by decide) (fun _ => ?_) (fun _ => ?_)
      · refine T_aload_n (pc := 22) 0 dX11_kinds_22 rfl rfl ?_
        refine T_getA (pc := 23) fd_0_5 hw444 dX11_kinds_23 ?_
        refine T_iload_n (pc := 26) 1 dX11_kinds_26 rfl rfl ?_
        refine T_iload_n (pc := 27) 2 dX11_kinds_27 rfl rfl ?_
        refine T_callSi (pc := 28) (rest := []) (Rn_V (pc := 28) (as := [.int p0, .int p1]) (rest := []) (ctX0_howManyOfKind σ p0 p1) rfl rfl mv_X0_howManyOfKind hw907 rfl ⟨Nat.le_of_ble_eq_true rfl, Nat.le_of_ble_eq_true rfl⟩ (Nat.le_of_ble_eq_true rfl) dX11_kinds_28 rfl) rfl (fun r2 => ?_)
        exact T_ireturn (pc := 31) rfl dX11_kinds_31 rfl
      · refine T_iconst (pc := 20) (v := -1) dX11_kinds_20 (by decide) ?_
        exact T_ireturn (pc := 21) rfl dX11_kinds_21 rfl
set_option maxRecDepth 100000 in
set_option maxHeartbeats 4000000 in
theorem ctX2_fewestGaps (σ : St) : Ct yX2_fewestGaps kX2_fewestGaps [.ref 7] σ (cPi σ) (fX2_fewestGaps σ) := by
  refine Ct.of (by decide +kernel) rfl rfl (Nat.le_of_ble_eq_true rfl) ?_
  unfold fX2_fewestGaps
  show T _ _ _ 0 [(0, .ref 7)] [] _
  refine T_aload_n (pc := 0) 0 dX2_fewestGaps_0 rfl rfl ?_
  refine T_aload_n (pc := 1) 0 dX2_fewestGaps_1 rfl rfl ?_
  refine T_callPi (pc := 2) (rest := [.ref 7]) (Rn_V (pc := 2) (as := []) (rest := [.ref 7]) (ctX2_startSlot σ) rfl rfl mv_X2_startSlot hw955 rfl ⟨Nat.le_of_ble_eq_true rfl, Nat.le_of_ble_eq_true rfl⟩ (Nat.le_of_ble_eq_true rfl) dX2_fewestGaps_2 rfl) rfl (fun x1 => ?_)
  refine T_callPi (pc := 5) (rest := []) (Rn_V (pc := 5) (as := [.int x1]) (rest := []) (ctX2_gapsAt σ x1) rfl rfl mv_X2_gapsAt hw974 rfl ⟨Nat.le_of_ble_eq_true rfl, Nat.le_of_ble_eq_true rfl⟩ (Nat.le_of_ble_eq_true rfl) dX2_fewestGaps_5 rfl) rfl (fun x2 => ?_)
  exact T_ireturn (pc := 8) rfl dX2_fewestGaps_8 rfl
set_option maxRecDepth 100000 in
set_option maxHeartbeats 4000000 in
theorem ctX11_least (σ : St) (p0 : Int32) : Ct yX11_least kX11_least [.ref 0, .int p0] σ cSi (fX11_least σ p0) := by
  refine Ct.of (by decide +kernel) rfl rfl (Nat.le_of_ble_eq_true rfl) ?_
  unfold fX11_least
  show T _ _ _ 0 [(0, .ref 0), (1, .int p0)] [] _
  refine T_aload_n (pc := 0) 0 dX11_least_0 rfl rfl ?_
  refine T_getA (pc := 1) fd_0_6 hw445 dX11_least_1 ?_
  refine T_iload_n (pc := 4) 1 dX11_least_4 rfl rfl ?_
  refine T_callSz (pc := 5) (rest := []) (Rn_V (pc := 5) (as := [.int p0]) (rest := []) (ctX2_areTold σ p0) rfl rfl mv_X2_areTold hw924 rfl ⟨Nat.le_of_ble_eq_true rfl, Nat.le_of_ble_eq_true rfl⟩ (Nat.le_of_ble_eq_true rfl) dX11_least_5 rfl) rfl (fun r1 => ?_)
  refine T_if_eq (pc := 8) 21 dX11_least_8 (by decide) (fun _ => ?_) (fun _ => ?_)
  · refine T_iconst (pc := 21) (v := -1) dX11_least_21 (by decide) ?_
    exact T_ireturn (pc := 22) rfl dX11_least_22 rfl
  · refine T_aload_n (pc := 11) 0 dX11_least_11 rfl rfl ?_
    refine T_getA (pc := 12) fd_0_6 hw445 dX11_least_12 ?_
    refine T_callPi (pc := 15) (rest := []) (Rn_V (pc := 15) (as := []) (rest := []) (ctX2_fewestGaps r1.2) rfl rfl mv_X2_fewestGaps hw996 rfl ⟨Nat.le_of_ble_eq_true rfl, Nat.le_of_ble_eq_true rfl⟩ (Nat.le_of_ble_eq_true rfl) dX11_least_15 rfl) rfl (fun x2 => ?_)
    refine T_goto (pc := 18) 22 dX11_least_18 (by decide) ?_
    exact T_ireturn (pc := 22) rfl dX11_least_22 rfl
set_option maxRecDepth 100000 in
set_option maxHeartbeats 4000000 in
theorem ctX11_length (σ : St) (p0 : Int32) : Ct yX11_length kX11_length [.ref 0, .int p0] σ cSi (fX11_length σ p0) := by
  refine Ct.of (by decide +kernel) rfl rfl (Nat.le_of_ble_eq_true rfl) ?_
  unfold fX11_length
  show T _ _ _ 0 [(0, .ref 0), (1, .int p0)] [] _
  refine T_aload_n (pc := 0) 0 dX11_length_0 rfl rfl ?_
  refine T_getA (pc := 1) fd_0_4 hw443 dX11_length_1 ?_
  refine T_iload_n (pc := 4) 1 dX11_length_4 rfl rfl ?_
  refine T_callPz (pc := 5) (rest := []) (Rn_V (pc := 5) (as := [.int p0]) (rest := []) (ctX7_haveAll σ p0) rfl rfl mv_X7_haveAll hw865 rfl ⟨Nat.le_of_ble_eq_true rfl, Nat.le_of_ble_eq_true rfl⟩ (Nat.le_of_ble_eq_true rfl) dX11_length_5 rfl) rfl (fun x1 => ?_)
  refine T_if_eq (pc := 8) 22 dX11_length_8 (by decide) (fun _ => ?_) (fun _ => ?_)
  · refine T_iconst (pc := 22) (v := -1) dX11_length_22 (by decide) ?_
    exact T_ireturn (pc := 23) rfl dX11_length_23 rfl
  · refine T_aload_n (pc := 11) 0 dX11_length_11 rfl rfl ?_
    refine T_getA (pc := 12) fd_0_5 hw444 dX11_length_12 ?_
    refine T_iload_n (pc := 15) 1 dX11_length_15 rfl rfl ?_
    refine T_callSi (pc := 16) (rest := []) (Rn_V (pc := 16) (as := [.int p0]) (rest := []) (ctX0_wordsAtLeast σ p0) rfl rfl mv_X0_wordsAtLeast hw1062 rfl ⟨Nat.le_of_ble_eq_true rfl, Nat.le_of_ble_eq_true rfl⟩ (Nat.le_of_ble_eq_true rfl) dX11_length_16 rfl) rfl (fun r2 => ?_)
    refine T_goto (pc := 19) 23 dX11_length_19 (by decide) ?_
    exact T_ireturn (pc := 23) rfl dX11_length_23 rfl
set_option maxRecDepth 100000 in
set_option maxHeartbeats 4000000 in
theorem ctX7_habitOf (σ : St) (p0 : Int32) : Ct yX7_habitOf kX7_habitOf [.ref 5, .int p0] σ (cPi σ) (fX7_habitOf σ p0) := by
  refine Ct.of (by decide +kernel) rfl rfl (Nat.le_of_ble_eq_true rfl) ?_
  unfold fX7_habitOf
  show T _ _ _ 0 [(0, .ref 5), (1, .int p0)] [] _
  refine T_aload_n (pc := 0) 0 dX7_habitOf_0 rfl rfl ?_
  refine T_iload_n (pc := 1) 1 dX7_habitOf_1 rfl rfl ?_
  refine T_callPz (pc := 2) (rest := []) (Rn_V (pc := 2) (as := [.int p0]) (rest := []) (ctX7_hasRoll σ p0) rfl rfl mv_X7_hasRoll hw1328 rfl ⟨Nat.le_of_ble_eq_true rfl, Nat.le_of_ble_eq_true rfl⟩ (Nat.le_of_ble_eq_true rfl) dX7_habitOf_2 rfl) rfl (fun x1 => ?_)
  refine T_if_eq (pc := 5) 17 dX7_habitOf_5 (by decide) (fun _ => ?_) (fun _ => ?_)
  · refine T_iconst (pc := 17) (v := -1) dX7_habitOf_17 (by decide) ?_
    exact T_ireturn (pc := 18) rfl dX7_habitOf_18 rfl
  · refine T_aload_n (pc := 8) 0 dX7_habitOf_8 rfl rfl ?_
    refine T_getA (pc := 9) fd_5_1 hw148 dX7_habitOf_9 ?_
    refine T_iload_n (pc := 12) 1 dX7_habitOf_12 rfl rfl ?_
    refine T_iald (pc := 13) rfl dX7_habitOf_13 (fun x2 => ?_)
    refine T_goto (pc := 14) 18 dX7_habitOf_14 (by decide) ?_
    exact T_ireturn (pc := 18) rfl dX7_habitOf_18 rfl
set_option maxRecDepth 100000 in
set_option maxHeartbeats 4000000 in
theorem ctX7_lastCueWord (σ : St) (p0 : Int32) : Ct yX7_lastCueWord kX7_lastCueWord [.ref 5, .int p0] σ (cPl σ) (fX7_lastCueWord σ p0) := by
  refine Ct.of (by decide +kernel) rfl rfl (Nat.le_of_ble_eq_true rfl) ?_
  unfold fX7_lastCueWord
  show T _ _ _ 0 [(0, .ref 5), (1, .int p0)] [] _
  refine T_aload_n (pc := 0) 0 dX7_lastCueWord_0 rfl rfl ?_
  refine T_iload_n (pc := 1) 1 dX7_lastCueWord_1 rfl rfl ?_
  refine T_aload_n (pc := 2) 0 dX7_lastCueWord_2 rfl rfl ?_
  refine T_iload_n (pc := 3) 1 dX7_lastCueWord_3 rfl rfl ?_
  refine T_callPi (pc := 4) (rest := [.int p0, .ref 5]) (Rn_V (pc := 4) (as := [.int p0]) (rest := [.int p0, .ref 5]) (ctX7_cueWordsOf σ p0) rfl rfl mv_X7_cueWordsOf hw817 rfl ⟨Nat.le_of_ble_eq_true rfl, Nat.le_of_ble_eq_true rfl⟩ (Nat.le_of_ble_eq_true rfl) dX7_lastCueWord_4 rfl) rfl (fun x1 => ?_)
  refine T_iconst (pc := 7) (v := 1) dX7_lastCueWord_7 (by decide) ?_
  refine T_isub (pc := 8) dX7_lastCueWord_8 ?_
  refine T_callPl (pc := 9) (rest := []) (Rn_V (pc := 9) (as := [.int p0, .int (x1 - (1 : Int32))]) (rest := []) (ctX7_cueWord σ p0 (x1 - (1 : Int32))) rfl rfl mv_X7_cueWord hw1375 rfl ⟨Nat.le_of_ble_eq_true rfl, Nat.le_of_ble_eq_true rfl⟩ (Nat.le_of_ble_eq_true rfl) dX7_lastCueWord_9 rfl) rfl (fun x2 => ?_)
  exact T_lreturn (pc := 12) rfl dX7_lastCueWord_12 rfl
set_option maxRecDepth 100000 in
set_option maxHeartbeats 4000000 in
theorem ctX7_lastCueWordButOne (σ : St) (p0 : Int32) : Ct yX7_lastCueWordButOne kX7_lastCueWordButOne [.ref 5, .int p0] σ (cPl σ) (fX7_lastCueWordButOne σ p0) := by
  refine Ct.of (by decide +kernel) rfl rfl (Nat.le_of_ble_eq_true rfl) ?_
  unfold fX7_lastCueWordButOne
  show T _ _ _ 0 [(0, .ref 5), (1, .int p0)] [] _
  refine T_aload_n (pc := 0) 0 dX7_lastCueWordButOne_0 rfl rfl ?_
  refine T_iload_n (pc := 1) 1 dX7_lastCueWordButOne_1 rfl rfl ?_
  refine T_aload_n (pc := 2) 0 dX7_lastCueWordButOne_2 rfl rfl ?_
  refine T_iload_n (pc := 3) 1 dX7_lastCueWordButOne_3 rfl rfl ?_
  refine T_callPi (pc := 4) (rest := [.int p0, .ref 5]) (Rn_V (pc := 4) (as := [.int p0]) (rest := [.int p0, .ref 5]) (ctX7_cueWordsOf σ p0) rfl rfl mv_X7_cueWordsOf hw817 rfl ⟨Nat.le_of_ble_eq_true rfl, Nat.le_of_ble_eq_true rfl⟩ (Nat.le_of_ble_eq_true rfl) dX7_lastCueWordButOne_4 rfl) rfl (fun x1 => ?_)
  refine T_iconst (pc := 7) (v := 2) dX7_lastCueWordButOne_7 (by decide) ?_
  refine T_isub (pc := 8) dX7_lastCueWordButOne_8 ?_
  refine T_callPl (pc := 9) (rest := []) (Rn_V (pc := 9) (as := [.int p0, .int (x1 - (2 : Int32))]) (rest := []) (ctX7_cueWord σ p0 (x1 - (2 : Int32))) rfl rfl mv_X7_cueWord hw1375 rfl ⟨Nat.le_of_ble_eq_true rfl, Nat.le_of_ble_eq_true rfl⟩ (Nat.le_of_ble_eq_true rfl) dX7_lastCueWordButOne_9 rfl) rfl (fun x2 => ?_)
  exact T_lreturn (pc := 12) rfl dX7_lastCueWordButOne_12 rfl
set_option maxRecDepth 100000 in
set_option maxHeartbeats 4000000 in
theorem ctX5_begin_h (σ : St) (p0 : Nat) : Ct yX5_begin kX5_begin_h [.ref 4, .ref p0] σ cSv (fX5_begin_h σ p0) := by
  refine Ct.of (by decide +kernel) rfl rfl (Nat.le_of_ble_eq_true rfl) ?_
  unfold fX5_begin_h
  show T _ _ _ 0 [(0, .ref 4), (1, .ref p0)] [] _
  refine T_aload_n (pc := 0) 0 dX5_begin_0 rfl rfl ?_
  refine T_aload_n (pc := 1) 1 dX5_begin_1 rfl rfl ?_
  refine T_putR (pc := 2) fd_4_2 hw239 dX5_begin_2 rfl ?_
  refine T_letS (fun s1 => ?_)
  refine T_aload_n (pc := 5) 0 dX5_begin_5 rfl rfl ?_
  refine T_iconst (pc := 6) (v := 0) dX5_begin_6 (by decide) ?_
  refine T_putI (pc := 7) fd_4_3 hw240 dX5_begin_7 ?_
  refine T_letS (fun s2 => ?_)
  refine T_aload_n (pc := 10) 0 dX5_begin_10 rfl rfl ?_
  refine T_iconst (pc := 11) (v := -1) dX5_begin_11 (by decide) ?_
  refine T_putI (pc := 12) fd_4_4 hw241 dX5_begin_12 ?_
  refine T_letS (fun s3 => ?_)
  exact T_return (pc := 15) rfl dX5_begin_15 rfl
set_option maxRecDepth 100000 in
set_option maxHeartbeats 4000000 in
theorem ctX1_worthOf (σ : St) (p0 : Int32) (p1 : Int64) (p2 : Int64) : Ct yX1_worthOf kX1_worthOf [.ref 4, .int p0, .long p1, .long p2] σ cSi (fX1_worthOf σ p0 p1 p2) := by
  refine Ct.of (by decide +kernel) rfl rfl (Nat.le_of_ble_eq_true rfl) ?_
  unfold fX1_worthOf
  show T _ _ _ 0 [(0, .ref 4), (1, .int p0), (2, .long p1), (4, .long p2)] [] _
  refine T_aload_n (pc := 0) 0 dX1_worthOf_0 rfl rfl ?_
  refine T_iload_n (pc := 1) 1 dX1_worthOf_1 rfl rfl ?_
  refine T_callPz (pc := 2) (rest := []) (Rn_V (pc := 2) (as := [.int p0]) (rest := []) (ctX1_has σ p0) rfl rfl mv_X1_has hw1346 rfl ⟨Nat.le_of_ble_eq_true rfl, Nat.le_of_ble_eq_true rfl⟩ (Nat.le_of_ble_eq_true rfl) dX1_worthOf_2 rfl) rfl (fun x1 => ?_)
  refine T_if_ne (pc := 5) 10 dX1_worthOf_5 (by decide) (fun _ => ?_) (fun _ => ?_)
  · refine T_aload_n (pc := 10) 0 dX1_worthOf_10 rfl rfl ?_
    refine T_lload_n (pc := 11) 2 dX1_worthOf_11 rfl rfl ?_
    refine T_putJ (pc := 12) fd_4_7 hw291 dX1_worthOf_12 ?_
    refine T_letS (fun s2 => ?_)
    refine T_aload_n (pc := 15) 0 dX1_worthOf_15 rfl rfl ?_
    refine T_lload_n (pc := 16) 2 dX1_worthOf_16 rfl rfl ?_
    refine T_callPi (pc := 17) (rest := [.ref 4]) (Rn_S (pc := 17) (as := [.long p1]) (rest := [.ref 4]) (ctX10_letters s2 p1) ms_X10_letters hw1347 rfl ⟨Nat.le_of_ble_eq_true rfl, Nat.le_of_ble_eq_true rfl⟩ (Nat.le_of_ble_eq_true rfl) dX1_worthOf_17 rfl) rfl (fun x3 => ?_)
    refine T_putI (pc := 20) fd_4_8 hw292 dX1_worthOf_20 ?_
    refine T_letS (fun s4 => ?_)
    refine T_aload_n (pc := 23) 0 dX1_worthOf_23 rfl rfl ?_
    refine T_lload_n (pc := 24) 2 dX1_worthOf_24 rfl rfl ?_
    refine T_callPi (pc := 25) (rest := [.ref 4]) (Rn_S (pc := 25) (as := [.long p1]) (rest := [.ref 4]) (ctX10_vowels s4 p1) ms_X10_vowels hw1348 rfl ⟨Nat.le_of_ble_eq_true rfl, Nat.le_of_ble_eq_true rfl⟩ (Nat.le_of_ble_eq_true rfl) dX1_worthOf_25 rfl) rfl (fun x5 => ?_)
    refine T_putI (pc := 28) fd_4_9 hw293 dX1_worthOf_28 ?_
    refine T_letS (fun s6 => ?_)
    refine T_aload_n (pc := 31) 0 dX1_worthOf_31 rfl rfl ?_
    refine T_lload_n (pc := 32) 2 dX1_worthOf_32 rfl rfl ?_
    refine T_callPi (pc := 33) (rest := [.ref 4]) (Rn_S (pc := 33) (as := [.long p1]) (rest := [.ref 4]) (ctX10_firstLetter s6 p1) ms_X10_firstLetter hw1352 rfl ⟨Nat.le_of_ble_eq_true rfl, Nat.le_of_ble_eq_true rfl⟩ (Nat.le_of_ble_eq_true rfl) dX1_worthOf_33 rfl) rfl (fun x7 => ?_)
    refine T_putI (pc := 36) fd_4_10 hw294 dX1_worthOf_36 ?_
    refine T_letS (fun s8 => ?_)
    refine T_aload_n (pc := 39) 0 dX1_worthOf_39 rfl rfl ?_
    refine T_lload (pc := 40) 3 dX1_worthOf_40 rfl ?_
    refine T_callPi (pc := 42) (rest := [.ref 4]) (Rn_S (pc := 42) (as := [.long p2]) (rest := [.ref 4]) (ctX10_letters s8 p2) ms_X10_letters hw1347 rfl ⟨Nat.le_of_ble_eq_true rfl, Nat.le_of_ble_eq_true rfl⟩ (Nat.le_of_ble_eq_true rfl) dX1_worthOf_42 rfl) rfl (fun x9 => ?_)
    refine T_putI (pc := 45) fd_4_11 hw295 dX1_worthOf_45 ?_
    refine T_letS (fun s10 => ?_)
    refine T_aload_n (pc := 48) 0 dX1_worthOf_48 rfl rfl ?_
    refine T_aload_n (pc := 49) 0 dX1_worthOf_49 rfl rfl ?_
    refine T_getA (pc := 50) fd_4_5 hw289 dX1_worthOf_50 ?_
    refine T_iload_n (pc := 53) 1 dX1_worthOf_53 rfl rfl ?_
    refine T_aald (pc := 54) rfl dX1_worthOf_54 (fun x11 => ?_)
    refine T_callSv (pc := 55) (rest := []) (Rn_U (pc := 55) (x := ⟨"CueRolls$Habits", "begin", "([J)V"⟩) (as := [.ref x11]) (rest := []) (ctX5_begin_h s10 x11) rfl rfl mu_X1_X1_X5_begin hw1356 rfl rfl ⟨Nat.le_of_ble_eq_true rfl, Nat.le_of_ble_eq_true rfl⟩ (Nat.le_of_ble_eq_true rfl) dX1_worthOf_55 rfl) rfl (fun s12 => ?_)
    refine T_aload_n (pc := 58) 0 dX1_worthOf_58 rfl rfl ?_
    refine T_callSv (pc := 59) (rest := []) (Rn_V (pc := 59) (as := []) (rest := []) (ctX1_takeAll s12) rfl rfl mv_X1_takeAll hw1360 rfl ⟨Nat.le_of_ble_eq_true rfl, Nat.le_of_ble_eq_true rfl⟩ (Nat.le_of_ble_eq_true rfl) dX1_worthOf_59 rfl) rfl (fun s13 => ?_)
    refine T_iconst (pc := 62) (v := 0) dX1_worthOf_62 (by decide) ?_
    refine T_bipush (pc := 63) (v := 100) dX1_worthOf_63 (by decide) ?_
    refine T_aload_n (pc := 65) 0 dX1_worthOf_65 rfl rfl ?_
    refine T_getI (pc := 66) fd_4_12 hw296 dX1_worthOf_66 ?_
    refine T_callPi (pc := 69) (rest := [.int (0 : Int32)]) (Rn_S (pc := 69) (as := [.int (100 : Int32), .int (zI s13 16)]) (rest := [.int (0 : Int32)]) (ctJ9_min_7cf53 s13 (100 : Int32) (zI s13 16)) ms_J9_min_7cf53 hw1361 rfl ⟨Nat.le_of_ble_eq_true rfl, Nat.le_of_ble_eq_true rfl⟩ (Nat.le_of_ble_eq_true rfl) dX1_worthOf_69 rfl) rfl (fun x14 => ?_)
    refine T_callPi (pc := 72) (rest := []) (Rn_S (pc := 72) (as := [.int (0 : Int32), .int x14]) (rest := []) (ctJ9_max_7cf53 s13 (0 : Int32) x14) ms_J9_max_7cf53 hw1362 rfl ⟨Nat.le_of_ble_eq_true rfl, Nat.le_of_ble_eq_true rfl⟩ (Nat.le_of_ble_eq_true rfl) dX1_worthOf_72 rfl) rfl (fun x15 => ?_)
    exact T_ireturn (pc := 75) rfl dX1_worthOf_75 rfl
  · refine T_iconst (pc := 8) (v := 0) dX1_worthOf_8 (by decide) ?_
    exact T_ireturn (pc := 9) rfl dX1_worthOf_9 rfl
set_option maxRecDepth 100000 in
set_option maxHeartbeats 4000000 in
theorem ctX11_likely (σ : St) (p0 : Int32) (p1 : Int32) : Ct yX11_likely kX11_likely [.ref 0, .int p0, .int p1] σ cSi (fX11_likely σ p0 p1) := by
  refine Ct.of (by decide +kernel) rfl rfl (Nat.le_of_ble_eq_true rfl) ?_
  unfold fX11_likely
  show T _ _ _ 0 [(0, .ref 0), (1, .int p0), (2, .int p1)] [] _
  refine T_aload_n (pc := 0) 0 dX11_likely_0 rfl rfl ?_
  refine T_getA (pc := 1) fd_0_4 hw443 dX11_likely_1 ?_
  refine T_iload_n (pc := 4) 1 dX11_likely_4 rfl rfl ?_
  refine T_callPz (pc := 5) (rest := []) (Rn_V (pc := 5) (as := [.int p0]) (rest := []) (ctX7_hasCue σ p0) rfl rfl mv_X7_hasCue hw827 rfl ⟨Nat.le_of_ble_eq_true rfl, Nat.le_of_ble_eq_true rfl⟩ (Nat.le_of_ble_eq_true rfl) dX11_likely_5 rfl) rfl (fun x1 => ?_)
  refine T_if_eq (pc := 8) 30 dX11_likely_8 (by decide) (fun _ => ?_) (fun _ => ?_)
  · refine T_iconst (pc := 30) (v := -1) dX11_likely_30 (by decide) ?_
    exact T_ireturn (pc := 31) rfl dX11_likely_31 rfl
  · refine T_aload_n (pc := 11) 0 dX11_likely_11 rfl rfl ?_
    refine T_getA (pc := 12) fd_0_4 hw443 dX11_likely_12 ?_
    refine T_iload_n (pc := 15) 2 dX11_likely_15 rfl rfl ?_
    refine T_callPz (pc := 16) (rest := []) (Rn_V (pc := 16) (as := [.int p1]) (rest := []) (ctX7_hasRoll σ p1) rfl rfl mv_X7_hasRoll hw782 rfl ⟨Nat.le_of_ble_eq_true rfl, Nat.le_of_ble_eq_true rfl⟩ (Nat.le_of_ble_eq_true rfl) dX11_likely_16 rfl) rfl (fun x2 => ?_)
    refine T_if_eq (pc := 19) 30 dX11_likely_19 (by decide) (fun _ => ?_) (fun _ => ?_)
    · refine T_iconst (pc := 30) (v := -1) dX11_likely_30 (by decide) ?_
      exact T_ireturn (pc := 31) rfl dX11_likely_31 rfl
    · refine T_iload_n (pc := 22) 1 dX11_likely_22 rfl rfl ?_
      refine T_callPi (pc := 23) (rest := []) (Rn_S (pc := 23) (as := [.int p0]) (rest := []) (ctX7_rollOf σ p0) ms_X7_rollOf hw1192 rfl ⟨Nat.le_of_ble_eq_true rfl, Nat.le_of_ble_eq_true rfl⟩ (Nat.le_of_ble_eq_true rfl) dX11_likely_23 rfl) rfl (fun x3 => ?_)
      refine T_iload_n (pc := 26) 2 dX11_likely_26 rfl rfl ?_
      refine T_icmp_ne (pc := 27) 32 dX11_likely_27 (by decide) (fun _ => ?_) (fun _ => ?_)
      · refine T_aload_n (pc := 32) 0 dX11_likely_32 rfl rfl ?_
        refine T_getA (pc := 33) fd_0_4 hw443 dX11_likely_33 ?_
        refine T_iload_n (pc := 36) 2 dX11_likely_36 rfl rfl ?_
        refine T_callPi (pc := 37) (rest := []) (Rn_V (pc := 37) (as := [.int p1]) (rest := []) (ctX7_habitOf σ p1) rfl rfl mv_X7_habitOf hw1367 rfl ⟨Nat.le_of_ble_eq_true rfl, Nat.le_of_ble_eq_true rfl⟩ (Nat.le_of_ble_eq_true rfl) dX11_likely_37 rfl) rfl (fun x4 => ?_)
        refine T_istore_n (pc := 40) (lv' := [(0, .ref 0), (1, .int p0), (2, .int p1), (3, .int x4)]) dX11_likely_40 rfl (Nat.le_of_ble_eq_true rfl) rfl ?_
        refine T_iload_n (pc := 41) 3 dX11_likely_41 rfl rfl ?_
        refine T_iconst (pc := 42) (v := -1) dX11_likely_42 (by decide) ?_
        refine T_icmp_ne (pc := 43) 48 dX11_likely_43 (by decide) (fun _ => ?_) (fun _ => ?_)
        · refine T_aload_n (pc := 48) 0 dX11_likely_48 rfl rfl ?_
          refine T_getA (pc := 49) fd_0_3 hw442 dX11_likely_49 ?_
          refine T_iload_n (pc := 52) 3 dX11_likely_52 rfl rfl ?_
          refine T_aload_n (pc := 53) 0 dX11_likely_53 rfl rfl ?_
          refine T_getA (pc := 54) fd_0_4 hw443 dX11_likely_54 ?_
          refine T_iload_n (pc := 57) 1 dX11_likely_57 rfl rfl ?_
          refine T_callPl (pc := 58) (rest := [.int x4, .ref 4]) (Rn_V (pc := 58) (as := [.int p0]) (rest := [.int x4, .ref 4]) (ctX7_lastCueWord σ p0) rfl rfl mv_X7_lastCueWord hw1371 rfl ⟨Nat.le_of_ble_eq_true rfl, Nat.le_of_ble_eq_true rfl⟩ (Nat.le_of_ble_eq_true rfl) dX11_likely_58 rfl) rfl (fun x5 => ?_)
          refine T_aload_n (pc := 61) 0 dX11_likely_61 rfl rfl ?_
          refine T_getA (pc := 62) fd_0_4 hw443 dX11_likely_62 ?_
          refine T_iload_n (pc := 65) 1 dX11_likely_65 rfl rfl ?_
          refine T_callPl (pc := 66) (rest := [.long x5, .int x4, .ref 4]) (Rn_V (pc := 66) (as := [.int p0]) (rest := [.long x5, .int x4, .ref 4]) (ctX7_lastCueWordButOne σ p0) rfl rfl mv_X7_lastCueWordButOne hw1376 rfl ⟨Nat.le_of_ble_eq_true rfl, Nat.le_of_ble_eq_true rfl⟩ (Nat.le_of_ble_eq_true rfl) dX11_likely_66 rfl) rfl (fun x6 => ?_)
          refine T_callSi (pc := 69) (rest := []) (Rn_V (pc := 69) (as := [.int x4, .long x5, .long x6]) (rest := []) (ctX1_worthOf σ x4 x5 x6) rfl rfl mv_X1_worthOf hw1342 rfl ⟨Nat.le_of_ble_eq_true rfl, Nat.le_of_ble_eq_true rfl⟩ (Nat.le_of_ble_eq_true rfl) dX11_likely_69 rfl) rfl (fun r7 => ?_)
          exact T_ireturn (pc := 72) rfl dX11_likely_72 rfl
        · refine T_iconst (pc := 46) (v := -1) dX11_likely_46 (by decide) ?_
          exact T_ireturn (pc := 47) rfl dX11_likely_47 rfl
      · refine T_iconst (pc := 30) (v := -1) dX11_likely_30 (by decide) ?_
        exact T_ireturn (pc := 31) rfl dX11_likely_31 rfl
set_option maxRecDepth 100000 in
set_option maxHeartbeats 4000000 in
theorem ctX11_limit (σ : St) (p0 : Int32) : Ct yX11_limit kX11_limit [.ref 0, .int p0] σ cSz (fX11_limit σ p0) := by
  refine Ct.of (by decide +kernel) rfl rfl (Nat.le_of_ble_eq_true rfl) ?_
  unfold fX11_limit
  show T _ _ _ 0 [(0, .ref 0), (1, .int p0)] [] _
  refine T_aload_n (pc := 0) 0 dX11_limit_0 rfl rfl ?_
  refine T_getA (pc := 1) fd_0_5 hw444 dX11_limit_1 ?_
  refine T_iload_n (pc := 4) 1 dX11_limit_4 rfl rfl ?_
  refine T_callSz (pc := 5) (rest := []) (Rn_V (pc := 5) (as := [.int p0]) (rest := []) (ctX0_setLimit σ p0) rfl rfl mv_X0_setLimit hw857 rfl ⟨Nat.le_of_ble_eq_true rfl, Nat.le_of_ble_eq_true rfl⟩ (Nat.le_of_ble_eq_true rfl) dX11_limit_5 rfl) rfl (fun r1 => ?_)
  exact T_zreturn (pc := 8) r1.1 rfl dX11_limit_8 rfl rfl
set_option maxRecDepth 100000 in
set_option maxHeartbeats 4000000 in
theorem ctX11_many (σ : St) (p0 : Int32) : Ct yX11_many kX11_many [.ref 0, .int p0] σ (cPi σ) (fX11_many σ p0) := by
  refine Ct.of (by decide +kernel) rfl rfl (Nat.le_of_ble_eq_true rfl) ?_
  unfold fX11_many
  show T _ _ _ 0 [(0, .ref 0), (1, .int p0)] [] _
  refine T_aload_n (pc := 0) 0 dX11_many_0 rfl rfl ?_
  refine T_getA (pc := 1) fd_0_4 hw443 dX11_many_1 ?_
  refine T_iload_n (pc := 4) 1 dX11_many_4 rfl rfl ?_
  refine T_callPz (pc := 5) (rest := []) (Rn_V (pc := 5) (as := [.int p0]) (rest := []) (ctX7_hasRoll σ p0) rfl rfl mv_X7_hasRoll hw782 rfl ⟨Nat.le_of_ble_eq_true rfl, Nat.le_of_ble_eq_true rfl⟩ (Nat.le_of_ble_eq_true rfl) dX11_many_5 rfl) rfl (fun x1 => ?_)
  refine T_if_eq (pc := 8) 22 dX11_many_8 (by decide) (fun _ => ?_) (fun _ => ?_)
  · refine T_iconst (pc := 22) (v := -1) dX11_many_22 (by decide) ?_
    exact T_ireturn (pc := 23) rfl dX11_many_23 rfl
  · refine T_aload_n (pc := 11) 0 dX11_many_11 rfl rfl ?_
    refine T_getA (pc := 12) fd_0_4 hw443 dX11_many_12 ?_
    refine T_iload_n (pc := 15) 1 dX11_many_15 rfl rfl ?_
    refine T_callPi (pc := 16) (rest := []) (Rn_V (pc := 16) (as := [.int p0]) (rest := []) (ctX7_sizeOf σ p0) rfl rfl mv_X7_sizeOf hw786 rfl ⟨Nat.le_of_ble_eq_true rfl, Nat.le_of_ble_eq_true rfl⟩ (Nat.le_of_ble_eq_true rfl) dX11_many_16 rfl) rfl (fun x2 => ?_)
    refine T_goto (pc := 19) 23 dX11_many_19 (by decide) ?_
    exact T_ireturn (pc := 23) rfl dX11_many_23 rfl
set_option maxRecDepth 100000 in
set_option maxHeartbeats 4000000 in
theorem ctX11_nearest (σ : St) (p0 : Int32) (p1 : Int32) : Ct yX11_nearest kX11_nearest [.ref 0, .int p0, .int p1] σ cSi (fX11_nearest σ p0 p1) := by
  refine Ct.of (by decide +kernel) rfl rfl (Nat.le_of_ble_eq_true rfl) ?_
  unfold fX11_nearest
  show T _ _ _ 0 [(0, .ref 0), (1, .int p0), (2, .int p1)] [] _
  refine T_aload_n (pc := 0) 0 dX11_nearest_0 rfl rfl ?_
  refine T_getA (pc := 1) fd_0_4 hw443 dX11_nearest_1 ?_
  refine T_iload_n (pc := 4) 1 dX11_nearest_4 rfl rfl ?_
  refine T_callPz (pc := 5) (rest := []) (Rn_V (pc := 5) (as := [.int p0]) (rest := []) (ctX7_hasCue σ p0) rfl rfl mv_X7_hasCue hw827 rfl ⟨Nat.le_of_ble_eq_true rfl, Nat.le_of_ble_eq_true rfl⟩ (Nat.le_of_ble_eq_true rfl) dX11_nearest_5 rfl) rfl (fun x1 => ?_)
  refine T_if_eq (pc := 8) 30 dX11_nearest_8 (by decide) (fun _ => ?_) (fun _ => ?_)
  · refine T_iconst (pc := 30) (v := -1) dX11_nearest_30 (by decide) ?_
    exact T_ireturn (pc := 31) rfl dX11_nearest_31 rfl
  · refine T_aload_n (pc := 11) 0 dX11_nearest_11 rfl rfl ?_
    refine T_getA (pc := 12) fd_0_4 hw443 dX11_nearest_12 ?_
    refine T_iload_n (pc := 15) 2 dX11_nearest_15 rfl rfl ?_
    refine T_callPz (pc := 16) (rest := []) (Rn_V (pc := 16) (as := [.int p1]) (rest := []) (ctX7_haveAll σ p1) rfl rfl mv_X7_haveAll hw865 rfl ⟨Nat.le_of_ble_eq_true rfl, Nat.le_of_ble_eq_true rfl⟩ (Nat.le_of_ble_eq_true rfl) dX11_nearest_16 rfl) rfl (fun x2 => ?_)
    refine T_if_eq (pc := 19) 30 dX11_nearest_19 (by decide) (fun _ => ?_) (fun _ => ?_)
    · refine T_iconst (pc := 30) (v := -1) dX11_nearest_30 (by decide) ?_
      exact T_ireturn (pc := 31) rfl dX11_nearest_31 rfl
    · refine T_iload_n (pc := 22) 1 dX11_nearest_22 rfl rfl ?_
      refine T_iload_n (pc := 23) 2 dX11_nearest_23 rfl rfl ?_
      refine T_callPz (pc := 24) (rest := []) (Rn_S (pc := 24) (as := [.int p0, .int p1]) (rest := []) (ctX7_isOf σ p0 p1) ms_X7_isOf hw869 rfl ⟨Nat.le_of_ble_eq_true rfl, Nat.le_of_ble_eq_true rfl⟩ (Nat.le_of_ble_eq_true rfl) dX11_nearest_24 rfl) rfl (fun x3 => ?_)
      refine T_if_ne (pc := 27) 32 dX11_nearest_27 (by decide) (fun _ => ?_) (fun _ => ?_)
      · refine T_aload_n (pc := 32) 0 dX11_nearest_32 rfl rfl ?_
        refine T_getA (pc := 33) fd_0_5 hw444 dX11_nearest_33 ?_
        refine T_iload_n (pc := 36) 1 dX11_nearest_36 rfl rfl ?_
        refine T_iload_n (pc := 37) 2 dX11_nearest_37 rfl rfl ?_
        refine T_callSi (pc := 38) (rest := []) (Rn_V (pc := 38) (as := [.int p0, .int p1]) (rest := []) (ctX0_leastFar σ p0 p1) rfl rfl mv_X0_leastFar hw916 rfl ⟨Nat.le_of_ble_eq_true rfl, Nat.le_of_ble_eq_true rfl⟩ (Nat.le_of_ble_eq_true rfl) dX11_nearest_38 rfl) rfl (fun r4 => ?_)
        exact T_ireturn (pc := 41) rfl dX11_nearest_41 rfl
      · refine T_iconst (pc := 30) (v := -1) dX11_nearest_30 (by decide) ?_
        exact T_ireturn (pc := 31) rfl dX11_nearest_31 rfl
set_option maxRecDepth 100000 in
set_option maxHeartbeats 4000000 in
theorem ctX11_next (σ : St) (p0 : Int32) : Ct yX11_next kX11_next [.ref 0, .int p0] σ (cPi σ) (fX11_next σ p0) := by
  refine Ct.of (by decide +kernel) rfl rfl (Nat.le_of_ble_eq_true rfl) ?_
  unfold fX11_next
  show T _ _ _ 0 [(0, .ref 0), (1, .int p0)] [] _
  refine T_aload_n (pc := 0) 0 dX11_next_0 rfl rfl ?_
  refine T_getA (pc := 1) fd_0_4 hw443 dX11_next_1 ?_
  refine T_iload_n (pc := 4) 1 dX11_next_4 rfl rfl ?_
  refine T_callPz (pc := 5) (rest := []) (Rn_V (pc := 5) (as := [.int p0]) (rest := []) (ctX7_haveAll σ p0) rfl rfl mv_X7_haveAll hw865 rfl ⟨Nat.le_of_ble_eq_true rfl, Nat.le_of_ble_eq_true rfl⟩ (Nat.le_of_ble_eq_true rfl) dX11_next_5 rfl) rfl (fun x1 => ?_)
  refine T_if_eq (pc := 8) 22 dX11_next_8 (by decide) (fun _ => ?_) (fun _ => ?_)
  · refine T_iconst (pc := 22) (v := -1) dX11_next_22 (by decide) ?_
    exact T_ireturn (pc := 23) rfl dX11_next_23 rfl
  · refine T_aload_n (pc := 11) 0 dX11_next_11 rfl rfl ?_
    refine T_getA (pc := 12) fd_0_5 hw444 dX11_next_12 ?_
    refine T_iload_n (pc := 15) 1 dX11_next_15 rfl rfl ?_
    refine T_callPi (pc := 16) (rest := []) (Rn_V (pc := 16) (as := [.int p0]) (rest := []) (ctX0_settlesMost σ p0) rfl rfl mv_X0_settlesMost hw1113 rfl ⟨Nat.le_of_ble_eq_true rfl, Nat.le_of_ble_eq_true rfl⟩ (Nat.le_of_ble_eq_true rfl) dX11_next_16 rfl) rfl (fun x2 => ?_)
    refine T_goto (pc := 19) 23 dX11_next_19 (by decide) ?_
    exact T_ireturn (pc := 23) rfl dX11_next_23 rfl
set_option maxRecDepth 100000 in
set_option maxHeartbeats 4000000 in
theorem ctX11_one (σ : St) (p0 : Int32) : Ct yX11_one kX11_one [.ref 0, .int p0] σ cSi (fX11_one σ p0) := by
  refine Ct.of (by decide +kernel) rfl rfl (Nat.le_of_ble_eq_true rfl) ?_
  unfold fX11_one
  show T _ _ _ 0 [(0, .ref 0), (1, .int p0)] [] _
  refine T_aload_n (pc := 0) 0 dX11_one_0 rfl rfl ?_
  refine T_getA (pc := 1) fd_0_4 hw443 dX11_one_1 ?_
  refine T_iload_n (pc := 4) 1 dX11_one_4 rfl rfl ?_
  refine T_callPz (pc := 5) (rest := []) (Rn_V (pc := 5) (as := [.int p0]) (rest := []) (ctX7_hasRoll σ p0) rfl rfl mv_X7_hasRoll hw782 rfl ⟨Nat.le_of_ble_eq_true rfl, Nat.le_of_ble_eq_true rfl⟩ (Nat.le_of_ble_eq_true rfl) dX11_one_5 rfl) rfl (fun x1 => ?_)
  refine T_if_eq (pc := 8) 22 dX11_one_8 (by decide) (fun _ => ?_) (fun _ => ?_)
  · refine T_iconst (pc := 22) (v := -1) dX11_one_22 (by decide) ?_
    exact T_ireturn (pc := 23) rfl dX11_one_23 rfl
  · refine T_aload_n (pc := 11) 0 dX11_one_11 rfl rfl ?_
    refine T_getA (pc := 12) fd_0_5 hw444 dX11_one_12 ?_
    refine T_iload_n (pc := 15) 1 dX11_one_15 rfl rfl ?_
    refine T_callSi (pc := 16) (rest := []) (Rn_V (pc := 16) (as := [.int p0]) (rest := []) (ctX0_joined σ p0) rfl rfl mv_X0_joined hw1078 rfl ⟨Nat.le_of_ble_eq_true rfl, Nat.le_of_ble_eq_true rfl⟩ (Nat.le_of_ble_eq_true rfl) dX11_one_16 rfl) rfl (fun r2 => ?_)
    refine T_goto (pc := 19) 23 dX11_one_19 (by decide) ?_
    exact T_ireturn (pc := 23) rfl dX11_one_23 rfl
set_option maxRecDepth 100000 in
set_option maxHeartbeats 4000000 in
theorem ctX2_howManyBest (σ : St) : Ct yX2_howManyBest kX2_howManyBest [.ref 7] σ (cPl σ) (fX2_howManyBest σ) := by
  refine Ct.of (by decide +kernel) rfl rfl (Nat.le_of_ble_eq_true rfl) ?_
  unfold fX2_howManyBest
  show T _ _ _ 0 [(0, .ref 7)] [] _
  refine T_aload_n (pc := 0) 0 dX2_howManyBest_0 rfl rfl ?_
  refine T_aload_n (pc := 1) 0 dX2_howManyBest_1 rfl rfl ?_
  refine T_callPi (pc := 2) (rest := [.ref 7]) (Rn_V (pc := 2) (as := []) (rest := [.ref 7]) (ctX2_startSlot σ) rfl rfl mv_X2_startSlot hw955 rfl ⟨Nat.le_of_ble_eq_true rfl, Nat.le_of_ble_eq_true rfl⟩ (Nat.le_of_ble_eq_true rfl) dX2_howManyBest_2 rfl) rfl (fun x1 => ?_)
  refine T_callPl (pc := 5) (rest := []) (Rn_V (pc := 5) (as := [.int x1]) (rest := []) (ctX2_waysAt σ x1) rfl rfl mv_X2_waysAt hw979 rfl ⟨Nat.le_of_ble_eq_true rfl, Nat.le_of_ble_eq_true rfl⟩ (Nat.le_of_ble_eq_true rfl) dX2_howManyBest_5 rfl) rfl (fun x2 => ?_)
  exact T_lreturn (pc := 8) rfl dX2_howManyBest_8 rfl
set_option maxRecDepth 100000 in
set_option maxHeartbeats 4000000 in
theorem ctX11_orders (σ : St) (p0 : Int32) : Ct yX11_orders kX11_orders [.ref 0, .int p0] σ cSl (fX11_orders σ p0) := by
  refine Ct.of (by decide +kernel) rfl rfl (Nat.le_of_ble_eq_true rfl) ?_
  unfold fX11_orders
  show T _ _ _ 0 [(0, .ref 0), (1, .int p0)] [] _
  refine T_aload_n (pc := 0) 0 dX11_orders_0 rfl rfl ?_
  refine T_getA (pc := 1) fd_0_6 hw445 dX11_orders_1 ?_
  refine T_iload_n (pc := 4) 1 dX11_orders_4 rfl rfl ?_
  refine T_callSz (pc := 5) (rest := []) (Rn_V (pc := 5) (as := [.int p0]) (rest := []) (ctX2_areTold σ p0) rfl rfl mv_X2_areTold hw924 rfl ⟨Nat.le_of_ble_eq_true rfl, Nat.le_of_ble_eq_true rfl⟩ (Nat.le_of_ble_eq_true rfl) dX11_orders_5 rfl) rfl (fun r1 => ?_)
  refine T_if_eq (pc := 8) 21 dX11_orders_8 (by decide) (fun _ => ?_) (fun _ => ?_)
  · refine T_ldc2 (pc := 21) hw1008 dX11_orders_21 ?_
    exact T_lreturn (pc := 24) rfl dX11_orders_24 rfl
  · refine T_aload_n (pc := 11) 0 dX11_orders_11 rfl rfl ?_
    refine T_getA (pc := 12) fd_0_6 hw445 dX11_orders_12 ?_
    refine T_callPl (pc := 15) (rest := []) (Rn_V (pc := 15) (as := []) (rest := []) (ctX2_howManyBest r1.2) rfl rfl mv_X2_howManyBest hw1004 rfl ⟨Nat.le_of_ble_eq_true rfl, Nat.le_of_ble_eq_true rfl⟩ (Nat.le_of_ble_eq_true rfl) dX11_orders_15 rfl) rfl (fun x2 => ?_)
    refine T_goto (pc := 18) 24 dX11_orders_18 (by decide) ?_
    exact T_lreturn (pc := 24) rfl dX11_orders_24 rfl
set_option maxRecDepth 100000 in
set_option maxHeartbeats 4000000 in
theorem ctX11_play (σ : St) (p0 : Int32) : Ct yX11_play kX11_play [.ref 0, .int p0] σ (cPi σ) (fX11_play σ p0) := by
  refine Ct.of (by decide +kernel) rfl rfl (Nat.le_of_ble_eq_true rfl) ?_
  unfold fX11_play
  show T _ _ _ 0 [(0, .ref 0), (1, .int p0)] [] _
  refine T_iload_n (pc := 0) 1 dX11_play_0 rfl rfl ?_
  refine T_iconst (pc := 1) (v := -1) dX11_play_1 (by decide) ?_
  refine T_icmp_ne (pc := 2) 15 dX11_play_2 (by decide) (fun _ => ?_) (fun _ => ?_)
  · refine T_aload_n (pc := 15) 0 dX11_play_15 rfl rfl ?_
    refine T_getA (pc := 16) fd_0_7 hw446 dX11_play_16 ?_
    refine T_iload_n (pc := 19) 1 dX11_play_19 rfl rfl ?_
    refine T_callPi (pc := 20) (rest := []) (Rn_V (pc := 20) (as := [.int p0]) (rest := []) (ctX8_playedAt σ p0) rfl rfl mv_X8_playedAt hw1140 rfl ⟨Nat.le_of_ble_eq_true rfl, Nat.le_of_ble_eq_true rfl⟩ (Nat.le_of_ble_eq_true rfl) dX11_play_20 rfl) rfl (fun x1 => ?_)
    exact T_ireturn (pc := 23) rfl dX11_play_23 rfl
  · refine T_aload_n (pc := 5) 0 dX11_play_5 rfl rfl ?_
    refine T_getA (pc := 6) fd_0_7 hw446 dX11_play_6 ?_
    refine T_callPi (pc := 9) (rest := []) (Rn_V (pc := 9) (as := []) (rest := []) (ctX8_played σ) rfl rfl mv_X8_played hw1136 rfl ⟨Nat.le_of_ble_eq_true rfl, Nat.le_of_ble_eq_true rfl⟩ (Nat.le_of_ble_eq_true rfl) dX11_play_9 rfl) rfl (fun x2 => ?_)
    refine T_goto (pc := 12) 23 dX11_play_12 (by decide) ?_
    exact T_ireturn (pc := 23) rfl dX11_play_23 rfl
set_option maxRecDepth 100000 in
set_option maxHeartbeats 4000000 in
theorem ctX11_plot (σ : St) (p0 : Int32) (p1 : Int32) : Ct yX11_plot kX11_plot [.ref 0, .int p0, .int p1] σ (cPi σ) (fX11_plot σ p0 p1) := by
  refine Ct.of (by decide +kernel) rfl rfl (Nat.le_of_ble_eq_true rfl) ?_
  unfold fX11_plot
  show T _ _ _ 0 [(0, .ref 0), (1, .int p0), (2, .int p1)] [] _
  refine T_aload_n (pc := 0) 0 dX11_plot_0 rfl rfl ?_
  refine T_getA (pc := 1) fd_0_8 hw447 dX11_plot_1 ?_
  refine T_iload_n (pc := 4) 1 dX11_plot_4 rfl rfl ?_
  refine T_callPz (pc := 5) (rest := []) (Rn_V (pc := 5) (as := [.int p0]) (rest := []) (ctX4_has σ p0) rfl rfl mv_X4_has hw1222 rfl ⟨Nat.le_of_ble_eq_true rfl, Nat.le_of_ble_eq_true rfl⟩ (Nat.le_of_ble_eq_true rfl) dX11_plot_5 rfl) rfl (fun x1 => ?_)
  refine T_if_ne (pc := 8) 13 dX11_plot_8 (by decide) (fun _ => ?_) (fun _ => ?_)
  · refine T_iload_n (pc := 13) 2 dX11_plot_13 rfl rfl ?_
    refine T_iconst (pc := 14) (v := -1) dX11_plot_14 (by decide) ?_
    refine T_icmp_ne (pc := 15) 29 dX11_plot_15 (by decide) (fun _ => ?_) (fun _ => ?_)
    · refine T_aload_n (pc := 29) 0 dX11_plot_29 rfl rfl ?_
      refine T_getA (pc := 30) fd_0_8 hw447 dX11_plot_30 ?_
      refine T_iload_n (pc := 33) 1 dX11_plot_33 rfl rfl ?_
      refine T_iload_n (pc := 34) 2 dX11_plot_34 rfl rfl ?_
      refine T_callPi (pc := 35) (rest := []) (Rn_V (pc := 35) (as := [.int p0, .int p1]) (rest := []) (ctX4_partsIn σ p0 p1) rfl rfl mv_X4_partsIn hw1238 rfl ⟨Nat.le_of_ble_eq_true rfl, Nat.le_of_ble_eq_true rfl⟩ (Nat.le_of_ble_eq_true rfl) dX11_plot_35 rfl) rfl (fun x2 => ?_)
      exact T_ireturn (pc := 38) rfl dX11_plot_38 rfl
    · refine T_aload_n (pc := 18) 0 dX11_plot_18 rfl rfl ?_
      refine T_getA (pc := 19) fd_0_8 hw447 dX11_plot_19 ?_
      refine T_iload_n (pc := 22) 1 dX11_plot_22 rfl rfl ?_
      refine T_callPi (pc := 23) (rest := []) (Rn_V (pc := 23) (as := [.int p0]) (rest := []) (ctX4_partsOf σ p0) rfl rfl mv_X4_partsOf hw1226 rfl ⟨Nat.le_of_ble_eq_true rfl, Nat.le_of_ble_eq_true rfl⟩ (Nat.le_of_ble_eq_true rfl) dX11_plot_23 rfl) rfl (fun x3 => ?_)
      refine T_goto (pc := 26) 38 dX11_plot_26 (by decide) ?_
      exact T_ireturn (pc := 38) rfl dX11_plot_38 rfl
  · refine T_iconst (pc := 11) (v := -1) dX11_plot_11 (by decide) ?_
    exact T_ireturn (pc := 12) rfl dX11_plot_12 rfl
set_option maxRecDepth 100000 in
set_option maxHeartbeats 4000000 in
theorem fX8_lowest_L2_T (v0 : Int32) (σ : St) {kb : Int32 → Option Int32} (hkb : ∀ (w1 : Int32), T kX8_lowest (cPi σ) σ 2 [(0, .int v0), (1, .int w1)] [] (kb w1)) (v1 : Int32) : T kX8_lowest (cPi σ) σ 2 [(0, .int v0), (1, .int v1)] [] (fX8_lowest_L2 v0 kb v1) := by
  unfold fX8_lowest_L2
  refine T_iload_n (pc := 2) 1 dX8_lowest_2 rfl rfl ?_
  refine T_bipush (pc := 3) (v := 8) dX8_lowest_3 (by decide) ?_
  refine T_icmp_ge (pc := 5) 24 dX8_lowest_5 (by decide) (fun _ => ?_) (fun _ => ?_)
  · refine T_iconst (pc := 24) (v := 0) dX8_lowest_24 (by decide) ?_
    exact T_ireturn (pc := 25) rfl dX8_lowest_25 rfl
  · refine T_iload_n (pc := 8) 1 dX8_lowest_8 rfl rfl ?_
    refine T_iload_n (pc := 9) 0 dX8_lowest_9 rfl rfl ?_
    refine T_callPz (pc := 10) (rest := []) (Rn_S (pc := 10) (as := [.int v1, .int v0]) (rest := []) (ctX7_isIn σ v1 v0) ms_X7_isIn hw1163 rfl ⟨Nat.le_of_ble_eq_true rfl, Nat.le_of_ble_eq_true rfl⟩ (Nat.le_of_ble_eq_true rfl) dX8_lowest_10 rfl) rfl (fun x1 => ?_)
    refine T_if_eq (pc := 13) 18 dX8_lowest_13 (by decide) (fun _ => ?_) (fun _ => ?_)
    · refine T_iinc (pc := 18) (y := 1) (lv' := [(0, .int v0), (1, .int (v1 + (1 : Int32)))]) 1 dX8_lowest_18 (by decide) rfl (Nat.le_of_ble_eq_true rfl) rfl ?_
      refine T_goto (pc := 21) 2 dX8_lowest_21 (by decide) ?_
      exact hkb (v1 + (1 : Int32))
    · refine T_iload_n (pc := 16) 1 dX8_lowest_16 rfl rfl ?_
      exact T_ireturn (pc := 17) rfl dX8_lowest_17 rfl
set_option maxRecDepth 100000 in
set_option maxHeartbeats 4000000 in
theorem fX8_lowest_P2_T (v0 : Int32) (σ : St) (v1 : Int32) : T kX8_lowest (cPi σ) σ 2 [(0, .int v0), (1, .int v1)] [] (fX8_lowest_P2 v0 v1) :=
  it_T (S := (fun _ : Int32 => σ)) (lv := fun t : Int32 => [(0, .int v0), (1, .int t)]) (st := fun _ => []) (fun kb hkb t => fX8_lowest_L2_T v0 (hkb := fun v1 => hkb v1) σ t) FU v1
set_option maxRecDepth 100000 in
set_option maxHeartbeats 4000000 in
theorem ctX8_lowest (σ : St) (p0 : Int32) : Ct yX8_lowest kX8_lowest [.int p0] σ (cPi σ) (fX8_lowest p0) := by
  refine Ct.of (by decide +kernel) rfl rfl (Nat.le_of_ble_eq_true rfl) ?_
  unfold fX8_lowest
  show T _ _ _ 0 [(0, .int p0)] [] _
  refine T_iconst (pc := 0) (v := 0) dX8_lowest_0 (by decide) ?_
  refine T_istore_n (pc := 1) (lv' := [(0, .int p0), (1, .int (0 : Int32))]) dX8_lowest_1 rfl (Nat.le_of_ble_eq_true rfl) rfl ?_
  exact fX8_lowest_P2_T p0 σ (0 : Int32)
set_option maxRecDepth 100000 in
set_option maxHeartbeats 4000000 in
theorem fX8_readyBehind_L5_T (v1 : Int32) (v2 : Int32) (σ : St) {kb : Int32 → Int32 → Option Int32} (hkb : ∀ (w3 : Int32) (w4 : Int32), T kX8_readyBehind (cPi σ) σ 5 [(0, .ref 8), (1, .int v1), (2, .int v2), (3, .int w3), (4, .int w4)] [] (kb w3 w4)) (v3 : Int32) (v4 : Int32) : T kX8_readyBehind (cPi σ) σ 5 [(0, .ref 8), (1, .int v1), (2, .int v2), (3, .int v3), (4, .int v4)] [] (fX8_readyBehind_L5 v1 v2 kb σ v3 v4) := by
  unfold fX8_readyBehind_L5
  refine T_iload (pc := 5) 4 dX8_readyBehind_5 rfl ?_
  refine T_aload_n (pc := 7) 0 dX8_readyBehind_7 rfl rfl ?_
  refine T_getA (pc := 8) fd_8_4 hw393 dX8_readyBehind_8 ?_
  refine T_alen (pc := 11) (v := 8) rfl (by decide) dX8_readyBehind_11 ?_
  refine T_icmp_ge (pc := 12) 84 dX8_readyBehind_12 (by decide) (fun _ => ?_) (fun _ => ?_)
  · refine T_iload_n (pc := 84) 3 dX8_readyBehind_84 rfl rfl ?_
    exact T_ireturn (pc := 85) rfl dX8_readyBehind_85 rfl
  · refine T_bipush (pc := 15) (v := 16) dX8_readyBehind_15 (by decide) ?_
    refine T_iload (pc := 17) 4 dX8_readyBehind_17 rfl ?_
    refine T_imul (pc := 19) dX8_readyBehind_19 ?_
    refine T_aload_n (pc := 20) 0 dX8_readyBehind_20 rfl rfl ?_
    refine T_getA (pc := 21) fd_8_4 hw393 dX8_readyBehind_21 ?_
    refine T_iload (pc := 24) 4 dX8_readyBehind_24 rfl ?_
    refine T_iald (pc := 26) rfl dX8_readyBehind_26 (fun x1 => ?_)
    refine T_iadd (pc := 27) dX8_readyBehind_27 ?_
    refine T_letI (fun x2 => ?_)
    refine T_istore (pc := 28) (lv' := [(0, .ref 8), (1, .int v1), (2, .int v2), (3, .int v3), (4, .int v4), (5, .int x2)]) dX8_readyBehind_28 (Nat.le_of_ble_eq_true rfl) rfl ?_
    refine T_iload (pc := 30) 4 dX8_readyBehind_30 rfl ?_
    refine T_iload_n (pc := 32) 2 dX8_readyBehind_32 rfl rfl ?_
    refine T_callPz (pc := 33) (rest := []) (Rn_S (pc := 33) (as := [.int v4, .int v2]) (rest := []) (ctX7_isIn σ v4 v2) ms_X7_isIn hw1163 rfl ⟨Nat.le_of_ble_eq_true rfl, Nat.le_of_ble_eq_true rfl⟩ (Nat.le_of_ble_eq_true rfl) dX8_readyBehind_33 rfl) rfl (fun x3 => ?_)
    refine T_if_eq (pc := 36) 78 dX8_readyBehind_36 (by decide) (fun _ => ?_) (fun _ => ?_)
    · refine T_iinc (pc := 78) (y := 1) (lv' := [(0, .ref 8), (1, .int v1), (2, .int v2), (3, .int v3), (4, .int (v4 + (1 : Int32))), (5, .int x2)]) 4 dX8_readyBehind_78 (by decide) rfl (Nat.le_of_ble_eq_true rfl) rfl ?_
      refine T_goto (pc := 81) 5 dX8_readyBehind_81 (by decide) ?_
      refine T_pick (lv' := [(0, .ref 8), (1, .int v1), (2, .int v2), (3, .int v3), (4, .int (v4 + (1 : Int32)))]) [0, 1, 2, 3, 4] rfl ?_
      exact hkb v3 (v4 + (1 : Int32))
    · refine T_aload_n (pc := 39) 0 dX8_readyBehind_39 rfl rfl ?_
      refine T_getA (pc := 40) fd_8_4 hw393 dX8_readyBehind_40 ?_
      refine T_iload (pc := 43) 4 dX8_readyBehind_43 rfl ?_
      refine T_iald (pc := 45) rfl dX8_readyBehind_45 (fun x4 => ?_)
      refine T_aload_n (pc := 46) 0 dX8_readyBehind_46 rfl rfl ?_
      refine T_getA (pc := 47) fd_8_0 hw389 dX8_readyBehind_47 ?_
      refine T_iload (pc := 50) 4 dX8_readyBehind_50 rfl ?_
      refine T_callPi (pc := 52) (rest := [.int x4]) (Rn_V (pc := 52) (as := [.int v4]) (rest := [.int x4]) (ctX7_sizeOf σ v4) rfl rfl mv_X7_sizeOf hw1131 rfl ⟨Nat.le_of_ble_eq_true rfl, Nat.le_of_ble_eq_true rfl⟩ (Nat.le_of_ble_eq_true rfl) dX8_readyBehind_52 rfl) rfl (fun x5 => ?_)
      refine T_icmp_ge (pc := 55) 78 dX8_readyBehind_55 (by decide) (fun _ => ?_) (fun _ => ?_)
      · refine T_iinc (pc := 78) (y := 1) (lv' := [(0, .ref 8), (1, .int v1), (2, .int v2), (3, .int v3), (4, .int (v4 + (1 : Int32))), (5, .int x2)]) 4 dX8_readyBehind_78 (by decide) rfl (Nat.le_of_ble_eq_true rfl) rfl ?_
        refine T_goto (pc := 81) 5 dX8_readyBehind_81 (by decide) ?_
        refine T_pick (lv' := [(0, .ref 8), (1, .int v1), (2, .int v2), (3, .int v3), (4, .int (v4 + (1 : Int32)))]) [0, 1, 2, 3, 4] rfl ?_
        exact hkb v3 (v4 + (1 : Int32))
      · refine T_aload_n (pc := 58) 0 dX8_readyBehind_58 rfl rfl ?_
        refine T_getA (pc := 59) fd_8_1 hw390 dX8_readyBehind_59 ?_
        refine T_iload (pc := 62) 5 dX8_readyBehind_62 rfl ?_
        refine T_iload_n (pc := 64) 1 dX8_readyBehind_64 rfl rfl ?_
        refine T_callPz (pc := 65) (rest := []) (Rn_V (pc := 65) (as := [.int x2, .int v1]) (rest := []) (ctX0_closes σ x2 v1) rfl rfl mv_X0_closes hw1154 rfl ⟨Nat.le_of_ble_eq_true rfl, Nat.le_of_ble_eq_true rfl⟩ (Nat.le_of_ble_eq_true rfl) dX8_readyBehind_65 rfl) rfl (fun x6 => ?_)
        refine T_if_eq (pc := 68) 78 dX8_readyBehind_68 (by decide) (fun _ => ?_) (fun _ => ?_)
        · refine T_iinc (pc := 78) (y := 1) (lv' := [(0, .ref 8), (1, .int v1), (2, .int v2), (3, .int v3), (4, .int (v4 + (1 : Int32))), (5, .int x2)]) 4 dX8_readyBehind_78 (by decide) rfl (Nat.le_of_ble_eq_true rfl) rfl ?_
          refine T_goto (pc := 81) 5 dX8_readyBehind_81 (by decide) ?_
          refine T_pick (lv' := [(0, .ref 8), (1, .int v1), (2, .int v2), (3, .int v3), (4, .int (v4 + (1 : Int32)))]) [0, 1, 2, 3, 4] rfl ?_
          exact hkb v3 (v4 + (1 : Int32))
        · refine T_iload_n (pc := 71) 3 dX8_readyBehind_71 rfl rfl ?_
          refine T_iconst (pc := 72) (v := 1) dX8_readyBehind_72 (by decide) ?_
          refine T_iload (pc := 73) 4 dX8_readyBehind_73 rfl ?_
          refine T_ishl (pc := 75) dX8_readyBehind_75 ?_
          refine T_ior (pc := 76) dX8_readyBehind_76 ?_
          refine T_letI (fun x7 => ?_)
          refine T_istore_n (pc := 77) (lv' := [(0, .ref 8), (1, .int v1), (2, .int v2), (3, .int x7), (4, .int v4), (5, .int x2)]) dX8_readyBehind_77 rfl (Nat.le_of_ble_eq_true rfl) rfl ?_
          refine T_iinc (pc := 78) (y := 1) (lv' := [(0, .ref 8), (1, .int v1), (2, .int v2), (3, .int x7), (4, .int (v4 + (1 : Int32))), (5, .int x2)]) 4 dX8_readyBehind_78 (by decide) rfl (Nat.le_of_ble_eq_true rfl) rfl ?_
          refine T_goto (pc := 81) 5 dX8_readyBehind_81 (by decide) ?_
          refine T_pick (lv' := [(0, .ref 8), (1, .int v1), (2, .int v2), (3, .int x7), (4, .int (v4 + (1 : Int32)))]) [0, 1, 2, 3, 4] rfl ?_
          exact hkb x7 (v4 + (1 : Int32))
set_option maxRecDepth 100000 in
set_option maxHeartbeats 4000000 in
theorem fX8_readyBehind_P5_T (v1 : Int32) (v2 : Int32) (σ : St) (v3 : Int32) (v4 : Int32) : T kX8_readyBehind (cPi σ) σ 5 [(0, .ref 8), (1, .int v1), (2, .int v2), (3, .int v3), (4, .int v4)] [] (fX8_readyBehind_P5 v1 v2 σ v3 v4) :=
  it_T (S := (fun _ : Int32 × Int32 => σ)) (lv := fun t : Int32 × Int32 => [(0, .ref 8), (1, .int v1), (2, .int v2), (3, .int t.1), (4, .int t.2)]) (st := fun _ => []) (fun kb hkb t => fX8_readyBehind_L5_T v1 v2 (hkb := fun v3 v4 => hkb (v3, v4)) σ t.1 t.2) FU (v3, v4)
set_option maxRecDepth 100000 in
set_option maxHeartbeats 4000000 in
theorem ctX8_readyBehind (σ : St) (p0 : Int32) (p1 : Int32) : Ct yX8_readyBehind kX8_readyBehind [.ref 8, .int p0, .int p1] σ (cPi σ) (fX8_readyBehind σ p0 p1) := by
  refine Ct.of (by decide +kernel) rfl rfl (Nat.le_of_ble_eq_true rfl) ?_
  unfold fX8_readyBehind
  show T _ _ _ 0 [(0, .ref 8), (1, .int p0), (2, .int p1)] [] _
  refine T_iconst (pc := 0) (v := 0) dX8_readyBehind_0 (by decide) ?_
  refine T_istore_n (pc := 1) (lv' := [(0, .ref 8), (1, .int p0), (2, .int p1), (3, .int (0 : Int32))]) dX8_readyBehind_1 rfl (Nat.le_of_ble_eq_true rfl) rfl ?_
  refine T_iconst (pc := 2) (v := 0) dX8_readyBehind_2 (by decide) ?_
  refine T_istore (pc := 3) (lv' := [(0, .ref 8), (1, .int p0), (2, .int p1), (3, .int (0 : Int32)), (4, .int (0 : Int32))]) dX8_readyBehind_3 (Nat.le_of_ble_eq_true rfl) rfl ?_
  exact fX8_readyBehind_P5_T p0 p1 σ (0 : Int32) (0 : Int32)
set_option maxRecDepth 100000 in
set_option maxHeartbeats 4000000 in
theorem fX8_rehearseAll_L4_T (v1 : Int32) (σ : St) {k1 : St → Int32 → Option St} {kb : St → Int32 → Int32 → Option St} (hk1 : ∀ (σ' : St) (w2 : Int32), T kX8_rehearseAll cSv σ' 54 [(0, .ref 8), (1, .int v1), (2, .int w2)] [] (k1 σ' w2)) (hkb : ∀ (σ' : St) (w2 : Int32) (w3 : Int32), T kX8_rehearseAll cSv σ' 4 [(0, .ref 8), (1, .int v1), (2, .int w2), (3, .int w3)] [] (kb σ' w2 w3)) (v2 : Int32) (v3 : Int32) : T kX8_rehearseAll cSv σ 4 [(0, .ref 8), (1, .int v1), (2, .int v2), (3, .int v3)] [] (fX8_rehearseAll_L4 v1 k1 kb σ v2 v3) := by
  unfold fX8_rehearseAll_L4
  refine T_iload_n (pc := 4) 3 dX8_rehearseAll_4 rfl rfl ?_
  refine T_aload_n (pc := 5) 0 dX8_rehearseAll_5 rfl rfl ?_
  refine T_getA (pc := 6) fd_8_4 hw393 dX8_rehearseAll_6 ?_
  refine T_alen (pc := 9) (v := 8) rfl (by decide) dX8_rehearseAll_9 ?_
  refine T_icmp_ge (pc := 10) 54 dX8_rehearseAll_10 (by decide) (fun _ => ?_) (fun _ => ?_)
  · refine T_pick (lv' := [(0, .ref 8), (1, .int v1), (2, .int v2)]) [0, 1, 2] rfl ?_
    exact hk1 σ v2
  · refine T_aload_n (pc := 13) 0 dX8_rehearseAll_13 rfl rfl ?_
    refine T_getA (pc := 14) fd_8_4 hw393 dX8_rehearseAll_14 ?_
    refine T_iload_n (pc := 17) 3 dX8_rehearseAll_17 rfl rfl ?_
    refine T_iconst (pc := 18) (v := 0) dX8_rehearseAll_18 (by decide) ?_
    refine T_iast (pc := 19) rfl dX8_rehearseAll_19 ?_
    refine T_letS (fun s1 => ?_)
    refine T_iload_n (pc := 20) 3 dX8_rehearseAll_20 rfl rfl ?_
    refine T_iload_n (pc := 21) 1 dX8_rehearseAll_21 rfl rfl ?_
    refine T_callPz (pc := 22) (rest := []) (Rn_S (pc := 22) (as := [.int v3, .int v1]) (rest := []) (ctX7_isIn s1 v3 v1) ms_X7_isIn hw1163 rfl ⟨Nat.le_of_ble_eq_true rfl, Nat.le_of_ble_eq_true rfl⟩ (Nat.le_of_ble_eq_true rfl) dX8_rehearseAll_22 rfl) rfl (fun x2 => ?_)
    refine T_if_eq (pc := 25) 48 dX8_rehearseAll_25 (by decide) (fun _ => ?_) (fun _ => ?_)
    · refine T_iinc (pc := 48) (y := 1) (lv' := [(0, .ref 8), (1, .int v1), (2, .int v2), (3, .int (v3 + (1 : Int32)))]) 3 dX8_rehearseAll_48 (by decide) rfl (Nat.le_of_ble_eq_true rfl) rfl ?_
      refine T_goto (pc := 51) 4 dX8_rehearseAll_51 (by decide) ?_
      exact hkb s1 v2 (v3 + (1 : Int32))
    · refine T_aload_n (pc := 28) 0 dX8_rehearseAll_28 rfl rfl ?_
      refine T_getA (pc := 29) fd_8_0 hw389 dX8_rehearseAll_29 ?_
      refine T_bipush (pc := 32) (v := 16) dX8_rehearseAll_32 (by decide) ?_
      refine T_iload_n (pc := 34) 3 dX8_rehearseAll_34 rfl rfl ?_
      refine T_imul (pc := 35) dX8_rehearseAll_35 ?_
      refine T_callPz (pc := 36) (rest := []) (Rn_V (pc := 36) (as := [.int ((16 : Int32) * v3)]) (rest := []) (ctX7_hasCue s1 ((16 : Int32) * v3)) rfl rfl mv_X7_hasCue hw1153 rfl ⟨Nat.le_of_ble_eq_true rfl, Nat.le_of_ble_eq_true rfl⟩ (Nat.le_of_ble_eq_true rfl) dX8_rehearseAll_36 rfl) rfl (fun x3 => ?_)
      refine T_if_ne (pc := 39) 48 dX8_rehearseAll_39 (by decide) (fun _ => ?_) (fun _ => ?_)
      · refine T_iinc (pc := 48) (y := 1) (lv' := [(0, .ref 8), (1, .int v1), (2, .int v2), (3, .int (v3 + (1 : Int32)))]) 3 dX8_rehearseAll_48 (by decide) rfl (Nat.le_of_ble_eq_true rfl) rfl ?_
        refine T_goto (pc := 51) 4 dX8_rehearseAll_51 (by decide) ?_
        exact hkb s1 v2 (v3 + (1 : Int32))
      · refine T_iload_n (pc := 42) 2 dX8_rehearseAll_42 rfl rfl ?_
        refine T_iconst (pc := 43) (v := 1) dX8_rehearseAll_43 (by decide) ?_
        refine T_iload_n (pc := 44) 3 dX8_rehearseAll_44 rfl rfl ?_
        refine T_ishl (pc := 45) dX8_rehearseAll_45 ?_
        refine T_ior (pc := 46) dX8_rehearseAll_46 ?_
        refine T_letI (fun x4 => ?_)
        refine T_istore_n (pc := 47) (lv' := [(0, .ref 8), (1, .int v1), (2, .int x4), (3, .int v3)]) dX8_rehearseAll_47 rfl (Nat.le_of_ble_eq_true rfl) rfl ?_
        refine T_iinc (pc := 48) (y := 1) (lv' := [(0, .ref 8), (1, .int v1), (2, .int x4), (3, .int (v3 + (1 : Int32)))]) 3 dX8_rehearseAll_48 (by decide) rfl (Nat.le_of_ble_eq_true rfl) rfl ?_
        refine T_goto (pc := 51) 4 dX8_rehearseAll_51 (by decide) ?_
        exact hkb s1 x4 (v3 + (1 : Int32))
set_option maxRecDepth 100000 in
set_option maxHeartbeats 4000000 in
theorem fX8_rehearseAll_P4_T (v1 : Int32) (σ : St) {k1 : St → Int32 → Option St} (hk1 : ∀ (σ' : St) (w2 : Int32), T kX8_rehearseAll cSv σ' 54 [(0, .ref 8), (1, .int v1), (2, .int w2)] [] (k1 σ' w2)) (v2 : Int32) (v3 : Int32) : T kX8_rehearseAll cSv σ 4 [(0, .ref 8), (1, .int v1), (2, .int v2), (3, .int v3)] [] (fX8_rehearseAll_P4 v1 k1 σ v2 v3) :=
  it_T (S := (fun t : St × Int32 × Int32 => t.1)) (lv := fun t : St × Int32 × Int32 => [(0, .ref 8), (1, .int v1), (2, .int t.2.1), (3, .int t.2.2)]) (st := fun _ => []) (fun kb hkb t => fX8_rehearseAll_L4_T v1 (hk1 := hk1) (hkb := fun σ v2 v3 => hkb (σ, v2, v3)) t.1 t.2.1 t.2.2) FU (σ, v2, v3)
set_option maxRecDepth 100000 in
set_option maxHeartbeats 4000000 in
theorem fX8_rehearseAll_L61_T (v1 : Int32) (σ : St) {kb : St → Int32 → Int32 → Option St} (hkb : ∀ (σ' : St) (w2 : Int32) (w3 : Int32), T kX8_rehearseAll cSv σ' 61 [(0, .ref 8), (1, .int v1), (2, .int w2), (3, .int w3)] [] (kb σ' w2 w3)) (v2 : Int32) (v3 : Int32) : T kX8_rehearseAll cSv σ 61 [(0, .ref 8), (1, .int v1), (2, .int v2), (3, .int v3)] [] (fX8_rehearseAll_L61 v1 kb σ v2 v3) := by
  unfold fX8_rehearseAll_L61
  refine T_iload_n (pc := 61) 3 dX8_rehearseAll_61 rfl rfl ?_
  refine T_aload_n (pc := 62) 0 dX8_rehearseAll_62 rfl rfl ?_
  refine T_getA (pc := 63) fd_8_3 hw392 dX8_rehearseAll_63 ?_
  refine T_alen (pc := 66) (v := 96) rfl (by decide) dX8_rehearseAll_66 ?_
  refine T_icmp_ge (pc := 67) 154 dX8_rehearseAll_67 (by decide) (fun _ => ?_) (fun _ => ?_)
  · exact T_return (pc := 154) rfl dX8_rehearseAll_154 rfl
  · refine T_iload_n (pc := 70) 2 dX8_rehearseAll_70 rfl rfl ?_
    refine T_if_eq (pc := 71) 154 dX8_rehearseAll_71 (by decide) (fun _ => ?_) (fun _ => ?_)
    · exact T_return (pc := 154) rfl dX8_rehearseAll_154 rfl
    · refine T_iload_n (pc := 74) 2 dX8_rehearseAll_74 rfl rfl ?_
      refine T_callPi (pc := 75) (rest := []) (Rn_S (pc := 75) (as := [.int v2]) (rest := []) (ctX8_lowest σ v2) ms_X8_lowest hw1164 rfl ⟨Nat.le_of_ble_eq_true rfl, Nat.le_of_ble_eq_true rfl⟩ (Nat.le_of_ble_eq_true rfl) dX8_rehearseAll_75 rfl) rfl (fun x8 => ?_)
      refine T_istore (pc := 78) (lv' := [(0, .ref 8), (1, .int v1), (2, .int v2), (3, .int v3), (4, .int x8)]) dX8_rehearseAll_78 (Nat.le_of_ble_eq_true rfl) rfl ?_
      refine T_aload_n (pc := 80) 0 dX8_rehearseAll_80 rfl rfl ?_
      refine T_getA (pc := 81) fd_8_3 hw392 dX8_rehearseAll_81 ?_
      refine T_iload_n (pc := 84) 3 dX8_rehearseAll_84 rfl rfl ?_
      refine T_bipush (pc := 85) (v := 16) dX8_rehearseAll_85 (by decide) ?_
      refine T_iload (pc := 87) 4 dX8_rehearseAll_87 rfl ?_
      refine T_imul (pc := 89) dX8_rehearseAll_89 ?_
      refine T_aload_n (pc := 90) 0 dX8_rehearseAll_90 rfl rfl ?_
      refine T_getA (pc := 91) fd_8_4 hw393 dX8_rehearseAll_91 ?_
      refine T_iload (pc := 94) 4 dX8_rehearseAll_94 rfl ?_
      refine T_iald (pc := 96) rfl dX8_rehearseAll_96 (fun x9 => ?_)
      refine T_iadd (pc := 97) dX8_rehearseAll_97 ?_
      refine T_iast (pc := 98) rfl dX8_rehearseAll_98 ?_
      refine T_letS (fun s10 => ?_)
      refine T_aload_n (pc := 99) 0 dX8_rehearseAll_99 rfl rfl ?_
      refine T_dup_a (pc := 100) dX8_rehearseAll_100 ?_
      refine T_getI (pc := 101) fd_8_6 hw395 dX8_rehearseAll_101 ?_
      refine T_iconst (pc := 104) (v := 1) dX8_rehearseAll_104 (by decide) ?_
      refine T_iadd (pc := 105) dX8_rehearseAll_105 ?_
      refine T_putI (pc := 106) fd_8_6 hw395 dX8_rehearseAll_106 ?_
      refine T_letS (fun s11 => ?_)
      refine T_aload_n (pc := 109) 0 dX8_rehearseAll_109 rfl rfl ?_
      refine T_getA (pc := 110) fd_8_4 hw393 dX8_rehearseAll_110 ?_
      refine T_iload (pc := 113) 4 dX8_rehearseAll_113 rfl ?_
      refine T_dup2_ia (pc := 115) dX8_rehearseAll_115 ?_
      refine T_iald (pc := 116) rfl dX8_rehearseAll_116 (fun x12 => ?_)
      refine T_iconst (pc := 117) (v := 1) dX8_rehearseAll_117 (by decide) ?_
      refine T_iadd (pc := 118) dX8_rehearseAll_118 ?_
      refine T_iast (pc := 119) rfl dX8_rehearseAll_119 ?_
      refine T_letS (fun s13 => ?_)
      refine T_iload_n (pc := 120) 2 dX8_rehearseAll_120 rfl rfl ?_
      refine T_iconst (pc := 121) (v := 1) dX8_rehearseAll_121 (by decide) ?_
      refine T_iload (pc := 122) 4 dX8_rehearseAll_122 rfl ?_
      refine T_ishl (pc := 124) dX8_rehearseAll_124 ?_
      refine T_iconst (pc := 125) (v := -1) dX8_rehearseAll_125 (by decide) ?_
      refine T_ixor (pc := 126) dX8_rehearseAll_126 ?_
      refine T_iand (pc := 127) dX8_rehearseAll_127 ?_
      refine T_aload_n (pc := 128) 0 dX8_rehearseAll_128 rfl rfl ?_
      refine T_aload_n (pc := 129) 0 dX8_rehearseAll_129 rfl rfl ?_
      refine T_getA (pc := 130) fd_8_3 hw392 dX8_rehearseAll_130 ?_
      refine T_iload_n (pc := 133) 3 dX8_rehearseAll_133 rfl rfl ?_
      refine T_iald (pc := 134) rfl dX8_rehearseAll_134 (fun x14 => ?_)
      refine T_iload_n (pc := 135) 1 dX8_rehearseAll_135 rfl rfl ?_
      refine T_iconst (pc := 136) (v := 1) dX8_rehearseAll_136 (by decide) ?_
      refine T_iload (pc := 137) 4 dX8_rehearseAll_137 rfl ?_
      refine T_ishl (pc := 139) dX8_rehearseAll_139 ?_
      refine T_iconst (pc := 140) (v := -1) dX8_rehearseAll_140 (by decide) ?_
      refine T_ixor (pc := 141) dX8_rehearseAll_141 ?_
      refine T_iand (pc := 142) dX8_rehearseAll_142 ?_
      refine T_callPi (pc := 143) (rest := [.int (v2 &&& (((1 : Int32) <<< (x8 &&& 31)) ^^^ (-1 : Int32)))]) (Rn_V (pc := 143) (as := [.int x14, .int (v1 &&& (((1 : Int32) <<< (x8 &&& 31)) ^^^ (-1 : Int32)))]) (rest := [.int (v2 &&& (((1 : Int32) <<< (x8 &&& 31)) ^^^ (-1 : Int32)))]) (ctX8_readyBehind s13 x14 (v1 &&& (((1 : Int32) <<< (x8 &&& 31)) ^^^ (-1 : Int32)))) rfl rfl mv_X8_readyBehind hw1167 rfl ⟨Nat.le_of_ble_eq_true rfl, Nat.le_of_ble_eq_true rfl⟩ (Nat.le_of_ble_eq_true rfl) dX8_rehearseAll_143 rfl) rfl (fun x15 => ?_)
      refine T_ior (pc := 146) dX8_rehearseAll_146 ?_
      refine T_letI (fun x16 => ?_)
      refine T_istore_n (pc := 147) (lv' := [(0, .ref 8), (1, .int v1), (2, .int x16), (3, .int v3), (4, .int x8)]) dX8_rehearseAll_147 rfl (Nat.le_of_ble_eq_true rfl) rfl ?_
      refine T_iinc (pc := 148) (y := 1) (lv' := [(0, .ref 8), (1, .int v1), (2, .int x16), (3, .int (v3 + (1 : Int32))), (4, .int x8)]) 3 dX8_rehearseAll_148 (by decide) rfl (Nat.le_of_ble_eq_true rfl) rfl ?_
      refine T_goto (pc := 151) 61 dX8_rehearseAll_151 (by decide) ?_
      refine T_pick (lv' := [(0, .ref 8), (1, .int v1), (2, .int x16), (3, .int (v3 + (1 : Int32)))]) [0, 1, 2, 3] rfl ?_
      exact hkb s13 x16 (v3 + (1 : Int32))
set_option maxRecDepth 100000 in
set_option maxHeartbeats 4000000 in
theorem fX8_rehearseAll_P61_T (v1 : Int32) (σ : St) (v2 : Int32) (v3 : Int32) : T kX8_rehearseAll cSv σ 61 [(0, .ref 8), (1, .int v1), (2, .int v2), (3, .int v3)] [] (fX8_rehearseAll_P61 v1 σ v2 v3) :=
  it_T (S := (fun t : St × Int32 × Int32 => t.1)) (lv := fun t : St × Int32 × Int32 => [(0, .ref 8), (1, .int v1), (2, .int t.2.1), (3, .int t.2.2)]) (st := fun _ => []) (fun kb hkb t => fX8_rehearseAll_L61_T v1 (hkb := fun σ v2 v3 => hkb (σ, v2, v3)) t.1 t.2.1 t.2.2) FU (σ, v2, v3)
set_option maxRecDepth 100000 in
set_option maxHeartbeats 4000000 in
theorem ctX8_rehearseAll (σ : St) (p0 : Int32) : Ct yX8_rehearseAll kX8_rehearseAll [.ref 8, .int p0] σ cSv (fX8_rehearseAll σ p0) := by
  refine Ct.of (by decide +kernel) rfl rfl (Nat.le_of_ble_eq_true rfl) ?_
  unfold fX8_rehearseAll
  show T _ _ _ 0 [(0, .ref 8), (1, .int p0)] [] _
  refine T_iconst (pc := 0) (v := 0) dX8_rehearseAll_0 (by decide) ?_
  refine T_istore_n (pc := 1) (lv' := [(0, .ref 8), (1, .int p0), (2, .int (0 : Int32))]) dX8_rehearseAll_1 rfl (Nat.le_of_ble_eq_true rfl) rfl ?_
  refine T_iconst (pc := 2) (v := 0) dX8_rehearseAll_2 (by decide) ?_
  refine T_istore_n (pc := 3) (lv' := [(0, .ref 8), (1, .int p0), (2, .int (0 : Int32)), (3, .int (0 : Int32))]) dX8_rehearseAll_3 rfl (Nat.le_of_ble_eq_true rfl) rfl ?_
  refine fX8_rehearseAll_P4_T p0 (hk1 := fun s5 x6 => ?_) σ (0 : Int32) (0 : Int32)
  · refine T_aload_n (pc := 54) 0 dX8_rehearseAll_54 rfl rfl ?_
    refine T_iconst (pc := 55) (v := 0) dX8_rehearseAll_55 (by decide) ?_
    refine T_putI (pc := 56) fd_8_6 hw395 dX8_rehearseAll_56 ?_
    refine T_letS (fun s7 => ?_)
    refine T_iconst (pc := 59) (v := 0) dX8_rehearseAll_59 (by decide) ?_
    refine T_istore_n (pc := 60) (lv' := [(0, .ref 8), (1, .int p0), (2, .int x6), (3, .int (0 : Int32))]) dX8_rehearseAll_60 rfl (Nat.le_of_ble_eq_true rfl) rfl ?_
    exact fX8_rehearseAll_P61_T p0 s7 x6 (0 : Int32)
set_option maxRecDepth 100000 in
set_option maxHeartbeats 4000000 in
theorem ctX8_saidAt (σ : St) (p0 : Int32) : Ct yX8_saidAt kX8_saidAt [.ref 8, .int p0] σ (cPi σ) (fX8_saidAt σ p0) := by
  refine Ct.of (by decide +kernel) rfl rfl (Nat.le_of_ble_eq_true rfl) ?_
  unfold fX8_saidAt
  show T _ _ _ 0 [(0, .ref 8), (1, .int p0)] [] _
  refine T_iload_n (pc := 0) 1 dX8_saidAt_0 rfl rfl ?_
  refine T_if_lt (pc := 1) 30 dX8_saidAt_1 (by decide) (fun _ => ?_) (fun _ => ?_)
  · refine T_iconst (pc := 30) (v := -1) dX8_saidAt_30 (by decide) ?_
    exact T_ireturn (pc := 31) rfl dX8_saidAt_31 rfl
  · refine T_iload_n (pc := 4) 1 dX8_saidAt_4 rfl rfl ?_
    refine T_aload_n (pc := 5) 0 dX8_saidAt_5 rfl rfl ?_
    refine T_getI (pc := 6) fd_8_6 hw395 dX8_saidAt_6 ?_
    refine T_icmp_ge (pc := 9) 30 dX8_saidAt_9 (by decide) (fun _ => ?_) (fun _ => ?_)
    · refine T_iconst (pc := 30) (v := -1) dX8_saidAt_30 (by decide) ?_
      exact T_ireturn (pc := 31) rfl dX8_saidAt_31 rfl
    · refine T_iload_n (pc := 12) 1 dX8_saidAt_12 rfl rfl ?_
      refine T_aload_n (pc := 13) 0 dX8_saidAt_13 rfl rfl ?_
      refine T_getA (pc := 14) fd_8_3 hw392 dX8_saidAt_14 ?_
      refine T_alen (pc := 17) (v := 96) rfl (by decide) dX8_saidAt_17 ?_
      refine T_icmp_ge (pc := 18) 30 dX8_saidAt_18 (by decide) (fun _ => ?_) (fun _ => ?_)
      · refine T_iconst (pc := 30) (v := -1) dX8_saidAt_30 (by decide) ?_
        exact T_ireturn (pc := 31) rfl dX8_saidAt_31 rfl
      · refine T_aload_n (pc := 21) 0 dX8_saidAt_21 rfl rfl ?_
        refine T_getA (pc := 22) fd_8_3 hw392 dX8_saidAt_22 ?_
        refine T_iload_n (pc := 25) 1 dX8_saidAt_25 rfl rfl ?_
        refine T_iald (pc := 26) rfl dX8_saidAt_26 (fun x1 => ?_)
        refine T_goto (pc := 27) 31 dX8_saidAt_27 (by decide) ?_
        exact T_ireturn (pc := 31) rfl dX8_saidAt_31 rfl
set_option maxRecDepth 100000 in
set_option maxHeartbeats 4000000 in
theorem ctX8_said (σ : St) : Ct yX8_said kX8_said [.ref 8] σ (cPi σ) (fX8_said σ) := by
  refine Ct.of (by decide +kernel) rfl rfl (Nat.le_of_ble_eq_true rfl) ?_
  unfold fX8_said
  show T _ _ _ 0 [(0, .ref 8)] [] _
  refine T_aload_n (pc := 0) 0 dX8_said_0 rfl rfl ?_
  refine T_getI (pc := 1) fd_8_6 hw395 dX8_said_1 ?_
  exact T_ireturn (pc := 4) rfl dX8_said_4 rfl
set_option maxRecDepth 100000 in
set_option maxHeartbeats 4000000 in
theorem ctX11_rehearse (σ : St) (p0 : Int32) (p1 : Int32) : Ct yX11_rehearse kX11_rehearse [.ref 0, .int p0, .int p1] σ cSi (fX11_rehearse σ p0 p1) := by
  refine Ct.of (by decide +kernel) rfl rfl (Nat.le_of_ble_eq_true rfl) ?_
  unfold fX11_rehearse
  show T _ _ _ 0 [(0, .ref 0), (1, .int p0), (2, .int p1)] [] _
  refine T_aload_n (pc := 0) 0 dX11_rehearse_0 rfl rfl ?_
  refine T_getA (pc := 1) fd_0_4 hw443 dX11_rehearse_1 ?_
  refine T_iload_n (pc := 4) 1 dX11_rehearse_4 rfl rfl ?_
  refine T_callPz (pc := 5) (rest := []) (Rn_V (pc := 5) (as := [.int p0]) (rest := []) (ctX7_haveAll σ p0) rfl rfl mv_X7_haveAll hw865 rfl ⟨Nat.le_of_ble_eq_true rfl, Nat.le_of_ble_eq_true rfl⟩ (Nat.le_of_ble_eq_true rfl) dX11_rehearse_5 rfl) rfl (fun x1 => ?_)
  refine T_if_ne (pc := 8) 13 dX11_rehearse_8 (by decide) (fun _ => ?_) (fun _ => ?_)
  · refine T_aload_n (pc := 13) 0 dX11_rehearse_13 rfl rfl ?_
    refine T_getA (pc := 14) fd_0_7 hw446 dX11_rehearse_14 ?_
    refine T_iload_n (pc := 17) 1 dX11_rehearse_17 rfl rfl ?_
    refine T_callSv (pc := 18) (rest := []) (Rn_V (pc := 18) (as := [.int p0]) (rest := []) (ctX8_rehearseAll σ p0) rfl rfl mv_X8_rehearseAll hw1159 rfl ⟨Nat.le_of_ble_eq_true rfl, Nat.le_of_ble_eq_true rfl⟩ (Nat.le_of_ble_eq_true rfl) dX11_rehearse_18 rfl) rfl (fun s2 => ?_)
    refine T_iload_n (pc := 21) 2 dX11_rehearse_21 rfl rfl ?_
    refine T_iconst (pc := 22) (v := -1) dX11_rehearse_22 (by decide) ?_
    refine T_icmp_ne (pc := 23) 36 dX11_rehearse_23 (by decide) (fun _ => ?_) (fun _ => ?_)
    · refine T_aload_n (pc := 36) 0 dX11_rehearse_36 rfl rfl ?_
      refine T_getA (pc := 37) fd_0_7 hw446 dX11_rehearse_37 ?_
      refine T_iload_n (pc := 40) 2 dX11_rehearse_40 rfl rfl ?_
      refine T_callPi (pc := 41) (rest := []) (Rn_V (pc := 41) (as := [.int p1]) (rest := []) (ctX8_saidAt s2 p1) rfl rfl mv_X8_saidAt hw1175 rfl ⟨Nat.le_of_ble_eq_true rfl, Nat.le_of_ble_eq_true rfl⟩ (Nat.le_of_ble_eq_true rfl) dX11_rehearse_41 rfl) rfl (fun x3 => ?_)
      exact T_ireturn (pc := 44) rfl dX11_rehearse_44 rfl
    · refine T_aload_n (pc := 26) 0 dX11_rehearse_26 rfl rfl ?_
      refine T_getA (pc := 27) fd_0_7 hw446 dX11_rehearse_27 ?_
      refine T_callPi (pc := 30) (rest := []) (Rn_V (pc := 30) (as := []) (rest := []) (ctX8_said s2) rfl rfl mv_X8_said hw1171 rfl ⟨Nat.le_of_ble_eq_true rfl, Nat.le_of_ble_eq_true rfl⟩ (Nat.le_of_ble_eq_true rfl) dX11_rehearse_30 rfl) rfl (fun x4 => ?_)
      refine T_goto (pc := 33) 44 dX11_rehearse_33 (by decide) ?_
      exact T_ireturn (pc := 44) rfl dX11_rehearse_44 rfl
  · refine T_iconst (pc := 11) (v := -1) dX11_rehearse_11 (by decide) ?_
    exact T_ireturn (pc := 12) rfl dX11_rehearse_12 rfl
set_option maxRecDepth 100000 in
set_option maxHeartbeats 4000000 in
theorem ctX11_settles (σ : St) (p0 : Int32) (p1 : Int32) : Ct yX11_settles kX11_settles [.ref 0, .int p0, .int p1] σ (cPi σ) (fX11_settles σ p0 p1) := by
  refine Ct.of (by decide +kernel) rfl rfl (Nat.le_of_ble_eq_true rfl) ?_
  unfold fX11_settles
  show T _ _ _ 0 [(0, .ref 0), (1, .int p0), (2, .int p1)] [] _
  refine T_aload_n (pc := 0) 0 dX11_settles_0 rfl rfl ?_
  refine T_getA (pc := 1) fd_0_4 hw443 dX11_settles_1 ?_
  refine T_iload_n (pc := 4) 1 dX11_settles_4 rfl rfl ?_
  refine T_callPz (pc := 5) (rest := []) (Rn_V (pc := 5) (as := [.int p0]) (rest := []) (ctX7_hasRoll σ p0) rfl rfl mv_X7_hasRoll hw782 rfl ⟨Nat.le_of_ble_eq_true rfl, Nat.le_of_ble_eq_true rfl⟩ (Nat.le_of_ble_eq_true rfl) dX11_settles_5 rfl) rfl (fun x1 => ?_)
  refine T_if_eq (pc := 8) 30 dX11_settles_8 (by decide) (fun _ => ?_) (fun _ => ?_)
  · refine T_iconst (pc := 30) (v := -1) dX11_settles_30 (by decide) ?_
    exact T_ireturn (pc := 31) rfl dX11_settles_31 rfl
  · refine T_aload_n (pc := 11) 0 dX11_settles_11 rfl rfl ?_
    refine T_getA (pc := 12) fd_0_4 hw443 dX11_settles_12 ?_
    refine T_iload_n (pc := 15) 2 dX11_settles_15 rfl rfl ?_
    refine T_callPz (pc := 16) (rest := []) (Rn_V (pc := 16) (as := [.int p1]) (rest := []) (ctX7_haveAll σ p1) rfl rfl mv_X7_haveAll hw865 rfl ⟨Nat.le_of_ble_eq_true rfl, Nat.le_of_ble_eq_true rfl⟩ (Nat.le_of_ble_eq_true rfl) dX11_settles_16 rfl) rfl (fun x2 => ?_)
    refine T_if_eq (pc := 19) 30 dX11_settles_19 (by decide) (fun _ => ?_) (fun _ => ?_)
    · refine T_iconst (pc := 30) (v := -1) dX11_settles_30 (by decide) ?_
      exact T_ireturn (pc := 31) rfl dX11_settles_31 rfl
    · refine T_iload_n (pc := 22) 1 dX11_settles_22 rfl rfl ?_
      refine T_iload_n (pc := 23) 2 dX11_settles_23 rfl rfl ?_
      refine T_callPz (pc := 24) (rest := []) (Rn_S (pc := 24) (as := [.int p0, .int p1]) (rest := []) (ctX7_isIn σ p0 p1) ms_X7_isIn hw1099 rfl ⟨Nat.le_of_ble_eq_true rfl, Nat.le_of_ble_eq_true rfl⟩ (Nat.le_of_ble_eq_true rfl) dX11_settles_24 rfl) rfl (fun x3 => ?_)
      refine T_if_eq (pc := 27) 32 dX11_settles_27 (by decide) (fun _ => ?_) (fun _ => ?_)
      · refine T_aload_n (pc := 32) 0 dX11_settles_32 rfl rfl ?_
        refine T_getA (pc := 33) fd_0_5 hw444 dX11_settles_33 ?_
        refine T_iload_n (pc := 36) 1 dX11_settles_36 rfl rfl ?_
        refine T_iload_n (pc := 37) 2 dX11_settles_37 rfl rfl ?_
        refine T_callPi (pc := 38) (rest := []) (Rn_V (pc := 38) (as := [.int p0, .int p1]) (rest := []) (ctX0_settledBy σ p0 p1) rfl rfl mv_X0_settledBy hw1100 rfl ⟨Nat.le_of_ble_eq_true rfl, Nat.le_of_ble_eq_true rfl⟩ (Nat.le_of_ble_eq_true rfl) dX11_settles_38 rfl) rfl (fun x4 => ?_)
        exact T_ireturn (pc := 41) rfl dX11_settles_41 rfl
      · refine T_iconst (pc := 30) (v := -1) dX11_settles_30 (by decide) ?_
        exact T_ireturn (pc := 31) rfl dX11_settles_31 rfl
set_option maxRecDepth 100000 in
set_option maxHeartbeats 4000000 in
theorem fX8_saidOtherwise_L4_T (σ : St) {kb : Int32 → Int32 → Option Int32} (hkb : ∀ (w1 : Int32) (w2 : Int32), T kX8_saidOtherwise (cPi σ) σ 4 [(0, .ref 8), (1, .int w1), (2, .int w2)] [] (kb w1 w2)) (v1 : Int32) (v2 : Int32) : T kX8_saidOtherwise (cPi σ) σ 4 [(0, .ref 8), (1, .int v1), (2, .int v2)] [] (fX8_saidOtherwise_L4 kb σ v1 v2) := by
  unfold fX8_saidOtherwise_L4
  refine T_iload_n (pc := 4) 2 dX8_saidOtherwise_4 rfl rfl ?_
  refine T_aload_n (pc := 5) 0 dX8_saidOtherwise_5 rfl rfl ?_
  refine T_getI (pc := 6) fd_8_5 hw394 dX8_saidOtherwise_6 ?_
  refine T_icmp_ge (pc := 9) 34 dX8_saidOtherwise_9 (by decide) (fun _ => ?_) (fun _ => ?_)
  · refine T_iload_n (pc := 34) 1 dX8_saidOtherwise_34 rfl rfl ?_
    exact T_ireturn (pc := 35) rfl dX8_saidOtherwise_35 rfl
  · refine T_aload_n (pc := 12) 0 dX8_saidOtherwise_12 rfl rfl ?_
    refine T_iload_n (pc := 13) 2 dX8_saidOtherwise_13 rfl rfl ?_
    refine T_callPi (pc := 14) (rest := []) (Rn_V (pc := 14) (as := [.int v2]) (rest := []) (ctX8_saidAt σ v2) rfl rfl mv_X8_saidAt hw1187 rfl ⟨Nat.le_of_ble_eq_true rfl, Nat.le_of_ble_eq_true rfl⟩ (Nat.le_of_ble_eq_true rfl) dX8_saidOtherwise_14 rfl) rfl (fun x1 => ?_)
    refine T_aload_n (pc := 17) 0 dX8_saidOtherwise_17 rfl rfl ?_
    refine T_iload_n (pc := 18) 2 dX8_saidOtherwise_18 rfl rfl ?_
    refine T_callPi (pc := 19) (rest := [.int x1]) (Rn_V (pc := 19) (as := [.int v2]) (rest := [.int x1]) (ctX8_playedAt σ v2) rfl rfl mv_X8_playedAt hw1126 rfl ⟨Nat.le_of_ble_eq_true rfl, Nat.le_of_ble_eq_true rfl⟩ (Nat.le_of_ble_eq_true rfl) dX8_saidOtherwise_19 rfl) rfl (fun x2 => ?_)
    refine T_icmp_eq (pc := 22) 28 dX8_saidOtherwise_22 (by decide) (fun _ => ?_) (fun _ => ?_)
    · refine T_iinc (pc := 28) (y := 1) (lv' := [(0, .ref 8), (1, .int v1), (2, .int (v2 + (1 : Int32)))]) 2 dX8_saidOtherwise_28 (by decide) rfl (Nat.le_of_ble_eq_true rfl) rfl ?_
      refine T_goto (pc := 31) 4 dX8_saidOtherwise_31 (by decide) ?_
      exact hkb v1 (v2 + (1 : Int32))
    · refine T_iinc (pc := 25) (y := 1) (lv' := [(0, .ref 8), (1, .int (v1 + (1 : Int32))), (2, .int v2)]) 1 dX8_saidOtherwise_25 (by decide) rfl (Nat.le_of_ble_eq_true rfl) rfl ?_
      refine T_iinc (pc := 28) (y := 1) (lv' := [(0, .ref 8), (1, .int (v1 + (1 : Int32))), (2, .int (v2 + (1 : Int32)))]) 2 dX8_saidOtherwise_28 (by decide) rfl (Nat.le_of_ble_eq_true rfl) rfl ?_
      refine T_goto (pc := 31) 4 dX8_saidOtherwise_31 (by decide) ?_
      exact hkb (v1 + (1 : Int32)) (v2 + (1 : Int32))
set_option maxRecDepth 100000 in
set_option maxHeartbeats 4000000 in
theorem fX8_saidOtherwise_P4_T (σ : St) (v1 : Int32) (v2 : Int32) : T kX8_saidOtherwise (cPi σ) σ 4 [(0, .ref 8), (1, .int v1), (2, .int v2)] [] (fX8_saidOtherwise_P4 σ v1 v2) :=
  it_T (S := (fun _ : Int32 × Int32 => σ)) (lv := fun t : Int32 × Int32 => [(0, .ref 8), (1, .int t.1), (2, .int t.2)]) (st := fun _ => []) (fun kb hkb t => fX8_saidOtherwise_L4_T (hkb := fun v1 v2 => hkb (v1, v2)) σ t.1 t.2) FU (v1, v2)
set_option maxRecDepth 100000 in
set_option maxHeartbeats 4000000 in
theorem ctX8_saidOtherwise (σ : St) : Ct yX8_saidOtherwise kX8_saidOtherwise [.ref 8] σ (cPi σ) (fX8_saidOtherwise σ) := by
  refine Ct.of (by decide +kernel) rfl rfl (Nat.le_of_ble_eq_true rfl) ?_
  unfold fX8_saidOtherwise
  show T _ _ _ 0 [(0, .ref 8)] [] _
  refine T_iconst (pc := 0) (v := 0) dX8_saidOtherwise_0 (by decide) ?_
  refine T_istore_n (pc := 1) (lv' := [(0, .ref 8), (1, .int (0 : Int32))]) dX8_saidOtherwise_1 rfl (Nat.le_of_ble_eq_true rfl) rfl ?_
  refine T_iconst (pc := 2) (v := 0) dX8_saidOtherwise_2 (by decide) ?_
  refine T_istore_n (pc := 3) (lv' := [(0, .ref 8), (1, .int (0 : Int32)), (2, .int (0 : Int32))]) dX8_saidOtherwise_3 rfl (Nat.le_of_ble_eq_true rfl) rfl ?_
  exact fX8_saidOtherwise_P4_T σ (0 : Int32) (0 : Int32)
set_option maxRecDepth 100000 in
set_option maxHeartbeats 4000000 in
theorem ctX11_soon (σ : St) (p0 : Int32) : Ct yX11_soon kX11_soon [.ref 0, .int p0] σ cSi (fX11_soon σ p0) := by
  refine Ct.of (by decide +kernel) rfl rfl (Nat.le_of_ble_eq_true rfl) ?_
  unfold fX11_soon
  show T _ _ _ 0 [(0, .ref 0), (1, .int p0)] [] _
  refine T_aload_n (pc := 0) 0 dX11_soon_0 rfl rfl ?_
  refine T_getA (pc := 1) fd_0_4 hw443 dX11_soon_1 ?_
  refine T_iload_n (pc := 4) 1 dX11_soon_4 rfl rfl ?_
  refine T_callPz (pc := 5) (rest := []) (Rn_V (pc := 5) (as := [.int p0]) (rest := []) (ctX7_haveAll σ p0) rfl rfl mv_X7_haveAll hw865 rfl ⟨Nat.le_of_ble_eq_true rfl, Nat.le_of_ble_eq_true rfl⟩ (Nat.le_of_ble_eq_true rfl) dX11_soon_5 rfl) rfl (fun x1 => ?_)
  refine T_if_ne (pc := 8) 13 dX11_soon_8 (by decide) (fun _ => ?_) (fun _ => ?_)
  · refine T_aload_n (pc := 13) 0 dX11_soon_13 rfl rfl ?_
    refine T_getA (pc := 14) fd_0_7 hw446 dX11_soon_14 ?_
    refine T_iload_n (pc := 17) 1 dX11_soon_17 rfl rfl ?_
    refine T_callSv (pc := 18) (rest := []) (Rn_V (pc := 18) (as := [.int p0]) (rest := []) (ctX8_rehearseAll σ p0) rfl rfl mv_X8_rehearseAll hw1159 rfl ⟨Nat.le_of_ble_eq_true rfl, Nat.le_of_ble_eq_true rfl⟩ (Nat.le_of_ble_eq_true rfl) dX11_soon_18 rfl) rfl (fun s2 => ?_)
    refine T_aload_n (pc := 21) 0 dX11_soon_21 rfl rfl ?_
    refine T_getA (pc := 22) fd_0_7 hw446 dX11_soon_22 ?_
    refine T_callPi (pc := 25) (rest := []) (Rn_V (pc := 25) (as := []) (rest := []) (ctX8_saidOtherwise s2) rfl rfl mv_X8_saidOtherwise hw1183 rfl ⟨Nat.le_of_ble_eq_true rfl, Nat.le_of_ble_eq_true rfl⟩ (Nat.le_of_ble_eq_true rfl) dX11_soon_25 rfl) rfl (fun x3 => ?_)
    exact T_ireturn (pc := 28) rfl dX11_soon_28 rfl
  · refine T_iconst (pc := 11) (v := -1) dX11_soon_11 (by decide) ?_
    exact T_ireturn (pc := 12) rfl dX11_soon_12 rfl
set_option maxRecDepth 100000 in
set_option maxHeartbeats 4000000 in
theorem ctX6_items (σ : St) : Ct yX6_items kX6_items [.ref 2] σ (cPi σ) (fX6_items σ) := by
  refine Ct.of (by decide +kernel) rfl rfl (Nat.le_of_ble_eq_true rfl) ?_
  unfold fX6_items
  show T _ _ _ 0 [(0, .ref 2)] [] _
  refine T_aload_n (pc := 0) 0 dX6_items_0 rfl rfl ?_
  refine T_getI (pc := 1) fd_2_9 hw236 dX6_items_1 ?_
  exact T_ireturn (pc := 4) rfl dX6_items_4 rfl
set_option maxRecDepth 100000 in
set_option maxHeartbeats 4000000 in
theorem ctX6_cueWordsOf (σ : St) (p0 : Int32) : Ct yX6_cueWordsOf kX6_cueWordsOf [.ref 2, .int p0] σ (cPi σ) (fX6_cueWordsOf σ p0) := by
  refine Ct.of (by decide +kernel) rfl rfl (Nat.le_of_ble_eq_true rfl) ?_
  unfold fX6_cueWordsOf
  show T _ _ _ 0 [(0, .ref 2), (1, .int p0)] [] _
  refine T_iload_n (pc := 0) 1 dX6_cueWordsOf_0 rfl rfl ?_
  refine T_if_lt (pc := 1) 22 dX6_cueWordsOf_1 (by decide) (fun _ => ?_) (fun _ => ?_)
  · refine T_iconst (pc := 22) (v := 0) dX6_cueWordsOf_22 (by decide) ?_
    exact T_ireturn (pc := 23) rfl dX6_cueWordsOf_23 rfl
  · refine T_iload_n (pc := 4) 1 dX6_cueWordsOf_4 rfl rfl ?_
    refine T_aload_n (pc := 5) 0 dX6_cueWordsOf_5 rfl rfl ?_
    refine T_getA (pc := 6) fd_2_5 hw232 dX6_cueWordsOf_6 ?_
    refine T_alen (pc := 9) (v := 12) rfl (by decide) dX6_cueWordsOf_9 ?_
    refine T_icmp_ge (pc := 10) 22 dX6_cueWordsOf_10 (by decide) (fun _ => ?_) (fun _ => ?_)
    · refine T_iconst (pc := 22) (v := 0) dX6_cueWordsOf_22 (by decide) ?_
      exact T_ireturn (pc := 23) rfl dX6_cueWordsOf_23 rfl
    · refine T_aload_n (pc := 13) 0 dX6_cueWordsOf_13 rfl rfl ?_
      refine T_getA (pc := 14) fd_2_5 hw232 dX6_cueWordsOf_14 ?_
      refine T_iload_n (pc := 17) 1 dX6_cueWordsOf_17 rfl rfl ?_
      refine T_iald (pc := 18) rfl dX6_cueWordsOf_18 (fun x1 => ?_)
      refine T_goto (pc := 19) 23 dX6_cueWordsOf_19 (by decide) ?_
      exact T_ireturn (pc := 23) rfl dX6_cueWordsOf_23 rfl
set_option maxRecDepth 100000 in
set_option maxHeartbeats 4000000 in
theorem ctX6_cueWord (σ : St) (p0 : Int32) (p1 : Int32) : Ct yX6_cueWord kX6_cueWord [.ref 2, .int p0, .int p1] σ (cPl σ) (fX6_cueWord σ p0 p1) := by
  refine Ct.of (by decide +kernel) rfl rfl (Nat.le_of_ble_eq_true rfl) ?_
  unfold fX6_cueWord
  show T _ _ _ 0 [(0, .ref 2), (1, .int p0), (2, .int p1)] [] _
  refine T_iconst (pc := 0) (v := 2) dX6_cueWord_0 (by decide) ?_
  refine T_iload_n (pc := 1) 1 dX6_cueWord_1 rfl rfl ?_
  refine T_imul (pc := 2) dX6_cueWord_2 ?_
  refine T_iload_n (pc := 3) 2 dX6_cueWord_3 rfl rfl ?_
  refine T_iadd (pc := 4) dX6_cueWord_4 ?_
  refine T_letI (fun x1 => ?_)
  refine T_istore_n (pc := 5) (lv' := [(0, .ref 2), (1, .int p0), (2, .int p1), (3, .int x1)]) dX6_cueWord_5 rfl (Nat.le_of_ble_eq_true rfl) rfl ?_
  refine T_iload_n (pc := 6) 3 dX6_cueWord_6 rfl rfl ?_
  refine T_if_lt (pc := 7) 28 dX6_cueWord_7 (by decide) (fun _ => ?_) (fun _ => ?_)
  · refine T_lconst (pc := 28) (v := 0) dX6_cueWord_28 (by decide) ?_
    exact T_lreturn (pc := 29) rfl dX6_cueWord_29 rfl
  · refine T_iload_n (pc := 10) 3 dX6_cueWord_10 rfl rfl ?_
    refine T_aload_n (pc := 11) 0 dX6_cueWord_11 rfl rfl ?_
    refine T_getA (pc := 12) fd_2_6 hw233 dX6_cueWord_12 ?_
    refine T_alenL (pc := 15) (v := 24) rfl (by decide) dX6_cueWord_15 ?_
    refine T_icmp_ge (pc := 16) 28 dX6_cueWord_16 (by decide) (fun _ => ?_) (fun _ => ?_)
    · refine T_lconst (pc := 28) (v := 0) dX6_cueWord_28 (by decide) ?_
      exact T_lreturn (pc := 29) rfl dX6_cueWord_29 rfl
    · refine T_aload_n (pc := 19) 0 dX6_cueWord_19 rfl rfl ?_
      refine T_getA (pc := 20) fd_2_6 hw233 dX6_cueWord_20 ?_
      refine T_iload_n (pc := 23) 3 dX6_cueWord_23 rfl rfl ?_
      refine T_lald (pc := 24) rfl dX6_cueWord_24 (fun x2 => ?_)
      refine T_goto (pc := 25) 29 dX6_cueWord_25 (by decide) ?_
      exact T_lreturn (pc := 29) rfl dX6_cueWord_29 rfl
set_option maxRecDepth 100000 in
set_option maxHeartbeats 4000000 in
theorem ctX6_wordsOf (σ : St) (p0 : Int32) : Ct yX6_wordsOf kX6_wordsOf [.ref 2, .int p0] σ (cPi σ) (fX6_wordsOf σ p0) := by
  refine Ct.of (by decide +kernel) rfl rfl (Nat.le_of_ble_eq_true rfl) ?_
  unfold fX6_wordsOf
  show T _ _ _ 0 [(0, .ref 2), (1, .int p0)] [] _
  refine T_iload_n (pc := 0) 1 dX6_wordsOf_0 rfl rfl ?_
  refine T_if_lt (pc := 1) 22 dX6_wordsOf_1 (by decide) (fun _ => ?_) (fun _ => ?_)
  · refine T_iconst (pc := 22) (v := 0) dX6_wordsOf_22 (by decide) ?_
    exact T_ireturn (pc := 23) rfl dX6_wordsOf_23 rfl
  · refine T_iload_n (pc := 4) 1 dX6_wordsOf_4 rfl rfl ?_
    refine T_aload_n (pc := 5) 0 dX6_wordsOf_5 rfl rfl ?_
    refine T_getA (pc := 6) fd_2_7 hw234 dX6_wordsOf_6 ?_
    refine T_alen (pc := 9) (v := 12) rfl (by decide) dX6_wordsOf_9 ?_
    refine T_icmp_ge (pc := 10) 22 dX6_wordsOf_10 (by decide) (fun _ => ?_) (fun _ => ?_)
    · refine T_iconst (pc := 22) (v := 0) dX6_wordsOf_22 (by decide) ?_
      exact T_ireturn (pc := 23) rfl dX6_wordsOf_23 rfl
    · refine T_aload_n (pc := 13) 0 dX6_wordsOf_13 rfl rfl ?_
      refine T_getA (pc := 14) fd_2_7 hw234 dX6_wordsOf_14 ?_
      refine T_iload_n (pc := 17) 1 dX6_wordsOf_17 rfl rfl ?_
      refine T_iald (pc := 18) rfl dX6_wordsOf_18 (fun x1 => ?_)
      refine T_goto (pc := 19) 23 dX6_wordsOf_19 (by decide) ?_
      exact T_ireturn (pc := 23) rfl dX6_wordsOf_23 rfl
set_option maxRecDepth 100000 in
set_option maxHeartbeats 4000000 in
theorem ctX6_word (σ : St) (p0 : Int32) (p1 : Int32) : Ct yX6_word kX6_word [.ref 2, .int p0, .int p1] σ (cPl σ) (fX6_word σ p0 p1) := by
  refine Ct.of (by decide +kernel) rfl rfl (Nat.le_of_ble_eq_true rfl) ?_
  unfold fX6_word
  show T _ _ _ 0 [(0, .ref 2), (1, .int p0), (2, .int p1)] [] _
  refine T_bipush (pc := 0) (v := 12) dX6_word_0 (by decide) ?_
  refine T_iload_n (pc := 2) 1 dX6_word_2 rfl rfl ?_
  refine T_imul (pc := 3) dX6_word_3 ?_
  refine T_iload_n (pc := 4) 2 dX6_word_4 rfl rfl ?_
  refine T_iadd (pc := 5) dX6_word_5 ?_
  refine T_letI (fun x1 => ?_)
  refine T_istore_n (pc := 6) (lv' := [(0, .ref 2), (1, .int p0), (2, .int p1), (3, .int x1)]) dX6_word_6 rfl (Nat.le_of_ble_eq_true rfl) rfl ?_
  refine T_iload_n (pc := 7) 3 dX6_word_7 rfl rfl ?_
  refine T_if_lt (pc := 8) 29 dX6_word_8 (by decide) (fun _ => ?_) (fun _ => ?_)
  · refine T_lconst (pc := 29) (v := 0) dX6_word_29 (by decide) ?_
    exact T_lreturn (pc := 30) rfl dX6_word_30 rfl
  · refine T_iload_n (pc := 11) 3 dX6_word_11 rfl rfl ?_
    refine T_aload_n (pc := 12) 0 dX6_word_12 rfl rfl ?_
    refine T_getA (pc := 13) fd_2_8 hw235 dX6_word_13 ?_
    refine T_alenL (pc := 16) (v := 144) rfl (by decide) dX6_word_16 ?_
    refine T_icmp_ge (pc := 17) 29 dX6_word_17 (by decide) (fun _ => ?_) (fun _ => ?_)
    · refine T_lconst (pc := 29) (v := 0) dX6_word_29 (by decide) ?_
      exact T_lreturn (pc := 30) rfl dX6_word_30 rfl
    · refine T_aload_n (pc := 20) 0 dX6_word_20 rfl rfl ?_
      refine T_getA (pc := 21) fd_2_8 hw235 dX6_word_21 ?_
      refine T_iload_n (pc := 24) 3 dX6_word_24 rfl rfl ?_
      refine T_lald (pc := 25) rfl dX6_word_25 (fun x2 => ?_)
      refine T_goto (pc := 26) 30 dX6_word_26 (by decide) ?_
      exact T_lreturn (pc := 30) rfl dX6_word_30 rfl
set_option maxRecDepth 100000 in
set_option maxHeartbeats 4000000 in
theorem fX7_fill_L26_T (v1 : Int32) (v3 : Int32) (σ : St) {k1 : St → Option St} {kb : St → Int32 → Option St} (hk1 : ∀ (σ' : St), T kX7_fill cSv σ' 56 [(0, .ref 5), (1, .int v1), (2, .ref 2), (3, .int v3)] [] (k1 σ')) (hkb : ∀ (σ' : St) (w4 : Int32), T kX7_fill cSv σ' 26 [(0, .ref 5), (1, .int v1), (2, .ref 2), (3, .int v3), (4, .int w4)] [] (kb σ' w4)) (v4 : Int32) : T kX7_fill cSv σ 26 [(0, .ref 5), (1, .int v1), (2, .ref 2), (3, .int v3), (4, .int v4)] [] (fX7_fill_L26 v1 v3 k1 kb σ v4) := by
  unfold fX7_fill_L26
  refine T_iload (pc := 26) 4 dX7_fill_26 rfl ?_
  refine T_iconst (pc := 28) (v := 2) dX7_fill_28 (by decide) ?_
  refine T_icmp_ge (pc := 29) 56 dX7_fill_29 (by decide) (fun _ => ?_) (fun _ => ?_)
  · refine T_pick (lv' := [(0, .ref 5), (1, .int v1), (2, .ref 2), (3, .int v3)]) [0, 1, 2, 3] rfl ?_
    exact hk1 σ
  · refine T_aload_n (pc := 32) 0 dX7_fill_32 rfl rfl ?_
    refine T_getA (pc := 33) fd_5_3 hw150 dX7_fill_33 ?_
    refine T_iconst (pc := 36) (v := 2) dX7_fill_36 (by decide) ?_
    refine T_iload_n (pc := 37) 1 dX7_fill_37 rfl rfl ?_
    refine T_imul (pc := 38) dX7_fill_38 ?_
    refine T_iload (pc := 39) 4 dX7_fill_39 rfl ?_
    refine T_iadd (pc := 41) dX7_fill_41 ?_
    refine T_aload_n (pc := 42) 2 dX7_fill_42 rfl rfl ?_
    refine T_iload_n (pc := 43) 3 dX7_fill_43 rfl rfl ?_
    refine T_iload (pc := 44) 4 dX7_fill_44 rfl ?_
    refine T_callPl (pc := 46) (rest := [.int (((2 : Int32) * v1) + v4), .ref 26]) (Rn_V (pc := 46) (as := [.int v3, .int v4]) (rest := [.int (((2 : Int32) * v1) + v4), .ref 26]) (ctX6_cueWord σ v3 v4) rfl rfl mv_X6_cueWord hw744 rfl ⟨Nat.le_of_ble_eq_true rfl, Nat.le_of_ble_eq_true rfl⟩ (Nat.le_of_ble_eq_true rfl) dX7_fill_46 rfl) rfl (fun x3 => ?_)
    refine T_last (pc := 49) rfl dX7_fill_49 ?_
    refine T_letS (fun s4 => ?_)
    refine T_iinc (pc := 50) (y := 1) (lv' := [(0, .ref 5), (1, .int v1), (2, .ref 2), (3, .int v3), (4, .int (v4 + (1 : Int32)))]) 4 dX7_fill_50 (by decide) rfl (Nat.le_of_ble_eq_true rfl) rfl ?_
    refine T_goto (pc := 53) 26 dX7_fill_53 (by decide) ?_
    exact hkb s4 (v4 + (1 : Int32))
set_option maxRecDepth 100000 in
set_option maxHeartbeats 4000000 in
theorem fX7_fill_P26_T (v1 : Int32) (v3 : Int32) (σ : St) {k1 : St → Option St} (hk1 : ∀ (σ' : St), T kX7_fill cSv σ' 56 [(0, .ref 5), (1, .int v1), (2, .ref 2), (3, .int v3)] [] (k1 σ')) (v4 : Int32) : T kX7_fill cSv σ 26 [(0, .ref 5), (1, .int v1), (2, .ref 2), (3, .int v3), (4, .int v4)] [] (fX7_fill_P26 v1 v3 k1 σ v4) :=
  it_T (S := (fun t : St × Int32 => t.1)) (lv := fun t : St × Int32 => [(0, .ref 5), (1, .int v1), (2, .ref 2), (3, .int v3), (4, .int t.2)]) (st := fun _ => []) (fun kb hkb t => fX7_fill_L26_T v1 v3 (hk1 := hk1) (hkb := fun σ v4 => hkb (σ, v4)) t.1 t.2) FU (σ, v4)
set_option maxRecDepth 100000 in
set_option maxHeartbeats 4000000 in
theorem fX7_fill_L70_T (v1 : Int32) (v3 : Int32) (σ : St) {kb : St → Int32 → Option St} (hkb : ∀ (σ' : St) (w4 : Int32), T kX7_fill cSv σ' 70 [(0, .ref 5), (1, .int v1), (2, .ref 2), (3, .int v3), (4, .int w4)] [] (kb σ' w4)) (v4 : Int32) : T kX7_fill cSv σ 70 [(0, .ref 5), (1, .int v1), (2, .ref 2), (3, .int v3), (4, .int v4)] [] (fX7_fill_L70 v1 v3 kb σ v4) := by
  unfold fX7_fill_L70
  refine T_iload (pc := 70) 4 dX7_fill_70 rfl ?_
  refine T_bipush (pc := 72) (v := 12) dX7_fill_72 (by decide) ?_
  refine T_icmp_ge (pc := 74) 102 dX7_fill_74 (by decide) (fun _ => ?_) (fun _ => ?_)
  · exact T_return (pc := 102) rfl dX7_fill_102 rfl
  · refine T_aload_n (pc := 77) 0 dX7_fill_77 rfl rfl ?_
    refine T_getA (pc := 78) fd_5_5 hw152 dX7_fill_78 ?_
    refine T_bipush (pc := 81) (v := 12) dX7_fill_81 (by decide) ?_
    refine T_iload_n (pc := 83) 1 dX7_fill_83 rfl rfl ?_
    refine T_imul (pc := 84) dX7_fill_84 ?_
    refine T_iload (pc := 85) 4 dX7_fill_85 rfl ?_
    refine T_iadd (pc := 87) dX7_fill_87 ?_
    refine T_aload_n (pc := 88) 2 dX7_fill_88 rfl rfl ?_
    refine T_iload_n (pc := 89) 3 dX7_fill_89 rfl rfl ?_
    refine T_iload (pc := 90) 4 dX7_fill_90 rfl ?_
    refine T_callPl (pc := 92) (rest := [.int (((12 : Int32) * v1) + v4), .ref 28]) (Rn_V (pc := 92) (as := [.int v3, .int v4]) (rest := [.int (((12 : Int32) * v1) + v4), .ref 28]) (ctX6_word σ v3 v4) rfl rfl mv_X6_word hw752 rfl ⟨Nat.le_of_ble_eq_true rfl, Nat.le_of_ble_eq_true rfl⟩ (Nat.le_of_ble_eq_true rfl) dX7_fill_92 rfl) rfl (fun x8 => ?_)
    refine T_last (pc := 95) rfl dX7_fill_95 ?_
    refine T_letS (fun s9 => ?_)
    refine T_iinc (pc := 96) (y := 1) (lv' := [(0, .ref 5), (1, .int v1), (2, .ref 2), (3, .int v3), (4, .int (v4 + (1 : Int32)))]) 4 dX7_fill_96 (by decide) rfl (Nat.le_of_ble_eq_true rfl) rfl ?_
    refine T_goto (pc := 99) 70 dX7_fill_99 (by decide) ?_
    exact hkb s9 (v4 + (1 : Int32))
set_option maxRecDepth 100000 in
set_option maxHeartbeats 4000000 in
theorem fX7_fill_P70_T (v1 : Int32) (v3 : Int32) (σ : St) (v4 : Int32) : T kX7_fill cSv σ 70 [(0, .ref 5), (1, .int v1), (2, .ref 2), (3, .int v3), (4, .int v4)] [] (fX7_fill_P70 v1 v3 σ v4) :=
  it_T (S := (fun t : St × Int32 => t.1)) (lv := fun t : St × Int32 => [(0, .ref 5), (1, .int v1), (2, .ref 2), (3, .int v3), (4, .int t.2)]) (st := fun _ => []) (fun kb hkb t => fX7_fill_L70_T v1 v3 (hkb := fun σ v4 => hkb (σ, v4)) t.1 t.2) FU (σ, v4)
set_option maxRecDepth 100000 in
set_option maxHeartbeats 4000000 in
theorem ctX7_fill (σ : St) (p0 : Int32) (p2 : Int32) : Ct yX7_fill kX7_fill [.ref 5, .int p0, .ref 2, .int p2] σ cSv (fX7_fill σ p0 p2) := by
  refine Ct.of (by decide +kernel) rfl rfl (Nat.le_of_ble_eq_true rfl) ?_
  unfold fX7_fill
  show T _ _ _ 0 [(0, .ref 5), (1, .int p0), (2, .ref 2), (3, .int p2)] [] _
  refine T_iload_n (pc := 0) 1 dX7_fill_0 rfl rfl ?_
  refine T_if_lt (pc := 1) 11 dX7_fill_1 (by decide) (fun _ => ?_) (fun _ => ?_)
  · exact T_return (pc := 11) rfl dX7_fill_11 rfl
  · refine T_iload_n (pc := 4) 1 dX7_fill_4 rfl rfl ?_
    refine T_sipush (pc := 5) (v := 128) dX7_fill_5 (by decide) ?_
    refine T_icmp_lt (pc := 8) 12 dX7_fill_8 (by decide) (fun _ => ?_) (fun _ => ?_)
    · refine T_aload_n (pc := 12) 0 dX7_fill_12 rfl rfl ?_
      refine T_getA (pc := 13) fd_5_2 hw149 dX7_fill_13 ?_
      refine T_iload_n (pc := 16) 1 dX7_fill_16 rfl rfl ?_
      refine T_aload_n (pc := 17) 2 dX7_fill_17 rfl rfl ?_
      refine T_iload_n (pc := 18) 3 dX7_fill_18 rfl rfl ?_
      refine T_callPi (pc := 19) (rest := [.int p0, .ref 25]) (Rn_V (pc := 19) (as := [.int p2]) (rest := [.int p0, .ref 25]) (ctX6_cueWordsOf σ p2) rfl rfl mv_X6_cueWordsOf hw740 rfl ⟨Nat.le_of_ble_eq_true rfl, Nat.le_of_ble_eq_true rfl⟩ (Nat.le_of_ble_eq_true rfl) dX7_fill_19 rfl) rfl (fun x1 => ?_)
      refine T_iast (pc := 22) rfl dX7_fill_22 ?_
      refine T_letS (fun s2 => ?_)
      refine T_iconst (pc := 23) (v := 0) dX7_fill_23 (by decide) ?_
      refine T_istore (pc := 24) (lv' := [(0, .ref 5), (1, .int p0), (2, .ref 2), (3, .int p2), (4, .int (0 : Int32))]) dX7_fill_24 (Nat.le_of_ble_eq_true rfl) rfl ?_
      refine fX7_fill_P26_T p0 p2 (hk1 := fun s5 => ?_) s2 (0 : Int32)
      · refine T_aload_n (pc := 56) 0 dX7_fill_56 rfl rfl ?_
        refine T_getA (pc := 57) fd_5_4 hw151 dX7_fill_57 ?_
        refine T_iload_n (pc := 60) 1 dX7_fill_60 rfl rfl ?_
        refine T_aload_n (pc := 61) 2 dX7_fill_61 rfl rfl ?_
        refine T_iload_n (pc := 62) 3 dX7_fill_62 rfl rfl ?_
        refine T_callPi (pc := 63) (rest := [.int p0, .ref 27]) (Rn_V (pc := 63) (as := [.int p2]) (rest := [.int p0, .ref 27]) (ctX6_wordsOf s5 p2) rfl rfl mv_X6_wordsOf hw748 rfl ⟨Nat.le_of_ble_eq_true rfl, Nat.le_of_ble_eq_true rfl⟩ (Nat.le_of_ble_eq_true rfl) dX7_fill_63 rfl) rfl (fun x6 => ?_)
        refine T_iast (pc := 66) rfl dX7_fill_66 ?_
        refine T_letS (fun s7 => ?_)
        refine T_iconst (pc := 67) (v := 0) dX7_fill_67 (by decide) ?_
        refine T_istore (pc := 68) (lv' := [(0, .ref 5), (1, .int p0), (2, .ref 2), (3, .int p2), (4, .int (0 : Int32))]) dX7_fill_68 (Nat.le_of_ble_eq_true rfl) rfl ?_
        exact fX7_fill_P70_T p0 p2 s7 (0 : Int32)
    · exact T_return (pc := 11) rfl dX7_fill_11 rfl
