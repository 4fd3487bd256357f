/-! methods X0_isLoose .. X7_sizeOf: by program (wip/gen) -/
set_option maxRecDepth 100000 in
set_option maxHeartbeats 4000000 in
theorem ctX0_isLoose (σ : St) (p0 : Int32) (p1 : Int32) : Ct yX0_isLoose kX0_isLoose [.ref 6, .int p0, .int p1] σ (cPz σ) (fX0_isLoose σ p0 p1) := by
  refine Ct.of (by decide +kernel) rfl rfl (Nat.le_of_ble_eq_true rfl) ?_
  unfold fX0_isLoose
  show T _ _ _ 0 [(0, .ref 6), (1, .int p0), (2, .int p1)] [] _
  refine T_aload_n (pc := 0) 0 dX0_isLoose_0 rfl rfl ?_
  refine T_getA (pc := 1) fd_6_0 hw186 dX0_isLoose_1 ?_
  refine T_iload_n (pc := 4) 1 dX0_isLoose_4 rfl rfl ?_
  refine T_callPz (pc := 5) (rest := []) (Rn_V (pc := 5) (as := [.int p0]) (rest := []) (ctX7_hasCue σ p0) rfl rfl mv_X7_hasCue hw1108 rfl ⟨Nat.le_of_ble_eq_true rfl, Nat.le_of_ble_eq_true rfl⟩ (Nat.le_of_ble_eq_true rfl) dX0_isLoose_5 rfl) rfl (fun x1 => ?_)
  refine T_if_eq (pc := 8) 32 dX0_isLoose_8 (by decide) (fun _ => ?_) (fun _ => ?_)
  · refine T_iconst (pc := 32) (v := 0) dX0_isLoose_32 (by decide) ?_
    exact T_zreturn (pc := 33) false rfl dX0_isLoose_33 rfl rfl
  · refine T_aload_n (pc := 11) 0 dX0_isLoose_11 rfl rfl ?_
    refine T_iload_n (pc := 12) 1 dX0_isLoose_12 rfl rfl ?_
    refine T_iload_n (pc := 13) 2 dX0_isLoose_13 rfl rfl ?_
    refine T_callPi (pc := 14) (rest := []) (Rn_V (pc := 14) (as := [.int p0, .int p1]) (rest := []) (ctX0_metBy σ p0 p1) rfl rfl mv_X0_metBy hw879 rfl ⟨Nat.le_of_ble_eq_true rfl, Nat.le_of_ble_eq_true rfl⟩ (Nat.le_of_ble_eq_true rfl) dX0_isLoose_14 rfl) rfl (fun x2 => ?_)
    refine T_if_ne (pc := 17) 32 dX0_isLoose_17 (by decide) (fun _ => ?_) (fun _ => ?_)
    · refine T_iconst (pc := 32) (v := 0) dX0_isLoose_32 (by decide) ?_
      exact T_zreturn (pc := 33) false rfl dX0_isLoose_33 rfl rfl
    · refine T_aload_n (pc := 20) 0 dX0_isLoose_20 rfl rfl ?_
      refine T_iload_n (pc := 21) 1 dX0_isLoose_21 rfl rfl ?_
      refine T_callPz (pc := 22) (rest := []) (Rn_V (pc := 22) (as := [.int p0]) (rest := []) (ctX0_isOwn σ p0) rfl rfl mv_X0_isOwn hw894 rfl ⟨Nat.le_of_ble_eq_true rfl, Nat.le_of_ble_eq_true rfl⟩ (Nat.le_of_ble_eq_true rfl) dX0_isLoose_22 rfl) rfl (fun x3 => ?_)
      refine T_if_ne (pc := 25) 32 dX0_isLoose_25 (by decide) (fun _ => ?_) (fun _ => ?_)
      · refine T_iconst (pc := 32) (v := 0) dX0_isLoose_32 (by decide) ?_
        exact T_zreturn (pc := 33) false rfl dX0_isLoose_33 rfl rfl
      · refine T_iconst (pc := 28) (v := 1) dX0_isLoose_28 (by decide) ?_
        refine T_goto (pc := 29) 33 dX0_isLoose_29 (by decide) ?_
        exact T_zreturn (pc := 33) true rfl dX0_isLoose_33 rfl rfl
set_option maxRecDepth 100000 in
set_option maxHeartbeats 4000000 in
theorem ctX0_join (σ : St) (p0 : Int32) (p1 : Int32) : Ct yX0_join kX0_join [.ref 6, .int p0, .int p1] σ cSv (fX0_join σ p0 p1) := by
  refine Ct.of (by decide +kernel) rfl rfl (Nat.le_of_ble_eq_true rfl) ?_
  unfold fX0_join
  show T _ _ _ 0 [(0, .ref 6), (1, .int p0), (2, .int p1)] [] _
  refine T_iload_n (pc := 0) 1 dX0_join_0 rfl rfl ?_
  refine T_if_lt (pc := 1) 50 dX0_join_1 (by decide) (fun _ => ?_) (fun _ => ?_)
  · exact T_return (pc := 50) rfl dX0_join_50 rfl
  · refine T_iload_n (pc := 4) 1 dX0_join_4 rfl rfl ?_
    refine T_aload_n (pc := 5) 0 dX0_join_5 rfl rfl ?_
    refine T_getA (pc := 6) fd_6_5 hw191 dX0_join_6 ?_
    refine T_alen (pc := 9) (v := 8) rfl (by decide) dX0_join_9 ?_
    refine T_icmp_ge (pc := 10) 50 dX0_join_10 (by decide) (fun _ => ?_) (fun _ => ?_)
    · exact T_return (pc := 50) rfl dX0_join_50 rfl
    · refine T_iload_n (pc := 13) 2 dX0_join_13 rfl rfl ?_
      refine T_if_lt (pc := 14) 50 dX0_join_14 (by decide) (fun _ => ?_) (fun _ => ?_)
      · exact T_return (pc := 50) rfl dX0_join_50 rfl
      · refine T_iload_n (pc := 17) 2 dX0_join_17 rfl rfl ?_
        refine T_aload_n (pc := 18) 0 dX0_join_18 rfl rfl ?_
        refine T_getA (pc := 19) fd_6_5 hw191 dX0_join_19 ?_
        refine T_alen (pc := 22) (v := 8) rfl (by decide) dX0_join_22 ?_
        refine T_icmp_ge (pc := 23) 50 dX0_join_23 (by decide) (fun _ => ?_) (fun _ => ?_)
        · exact T_return (pc := 50) rfl dX0_join_50 rfl
        · refine T_aload_n (pc := 26) 0 dX0_join_26 rfl rfl ?_
          refine T_getA (pc := 27) fd_6_5 hw191 dX0_join_27 ?_
          refine T_iload_n (pc := 30) 1 dX0_join_30 rfl rfl ?_
          refine T_dup2_ia (pc := 31) dX0_join_31 ?_
          refine T_iald (pc := 32) rfl dX0_join_32 (fun x1 => ?_)
          refine T_iconst (pc := 33) (v := 1) dX0_join_33 (by decide) ?_
          refine T_iload_n (pc := 34) 2 dX0_join_34 rfl rfl ?_
          refine T_ishl (pc := 35) dX0_join_35 ?_
          refine T_ior (pc := 36) dX0_join_36 ?_
          refine T_iast (pc := 37) rfl dX0_join_37 ?_
          refine T_letS (fun s2 => ?_)
          refine T_aload_n (pc := 38) 0 dX0_join_38 rfl rfl ?_
          refine T_getA (pc := 39) fd_6_5 hw191 dX0_join_39 ?_
          refine T_iload_n (pc := 42) 2 dX0_join_42 rfl rfl ?_
          refine T_dup2_ia (pc := 43) dX0_join_43 ?_
          refine T_iald (pc := 44) rfl dX0_join_44 (fun x3 => ?_)
          refine T_iconst (pc := 45) (v := 1) dX0_join_45 (by decide) ?_
          refine T_iload_n (pc := 46) 1 dX0_join_46 rfl rfl ?_
          refine T_ishl (pc := 47) dX0_join_47 ?_
          refine T_ior (pc := 48) dX0_join_48 ?_
          refine T_iast (pc := 49) rfl dX0_join_49 ?_
          refine T_letS (fun s4 => ?_)
          exact T_return (pc := 50) rfl dX0_join_50 rfl
set_option maxRecDepth 100000 in
set_option maxHeartbeats 4000000 in
theorem ctX7_number (σ : St) : Ct yX7_number kX7_number [.ref 5] σ (cPi σ) (fX7_number σ) := by
  refine Ct.of (by decide +kernel) rfl rfl (Nat.le_of_ble_eq_true rfl) ?_
  unfold fX7_number
  show T _ _ _ 0 [(0, .ref 5)] [] _
  refine T_aload_n (pc := 0) 0 dX7_number_0 rfl rfl ?_
  refine T_getI (pc := 1) fd_5_8 hw155 dX7_number_1 ?_
  exact T_ireturn (pc := 4) rfl dX7_number_4 rfl
set_option maxRecDepth 100000 in
set_option maxHeartbeats 4000000 in
theorem fX0_lowestMet_L2_T (v1 : Int32) (σ : St) {kb : Int32 → Option Int32} (hkb : ∀ (w2 : Int32), T kX0_lowestMet (cPi σ) σ 2 [(0, .ref 6), (1, .int v1), (2, .int w2)] [] (kb w2)) (v2 : Int32) : T kX0_lowestMet (cPi σ) σ 2 [(0, .ref 6), (1, .int v1), (2, .int v2)] [] (fX0_lowestMet_L2 v1 kb σ v2) := by
  unfold fX0_lowestMet_L2
  refine T_iload_n (pc := 2) 2 dX0_lowestMet_2 rfl rfl ?_
  refine T_aload_n (pc := 3) 0 dX0_lowestMet_3 rfl rfl ?_
  refine T_getA (pc := 4) fd_6_0 hw186 dX0_lowestMet_4 ?_
  refine T_callPi (pc := 7) (rest := [.int v2]) (Rn_V (pc := 7) (as := []) (rest := [.int v2]) (ctX7_speeches σ) rfl rfl mv_X7_speeches hw884 rfl ⟨Nat.le_of_ble_eq_true rfl, Nat.le_of_ble_eq_true rfl⟩ (Nat.le_of_ble_eq_true rfl) dX0_lowestMet_7 rfl) rfl (fun x1 => ?_)
  refine T_icmp_ge (pc := 10) 50 dX0_lowestMet_10 (by decide) (fun _ => ?_) (fun _ => ?_)
  · refine T_iload_n (pc := 50) 1 dX0_lowestMet_50 rfl rfl ?_
    exact T_ireturn (pc := 51) rfl dX0_lowestMet_51 rfl
  · refine T_aload_n (pc := 13) 0 dX0_lowestMet_13 rfl rfl ?_
    refine T_getA (pc := 14) fd_6_0 hw186 dX0_lowestMet_14 ?_
    refine T_iload_n (pc := 17) 2 dX0_lowestMet_17 rfl rfl ?_
    refine T_callPi (pc := 18) (rest := []) (Rn_V (pc := 18) (as := [.int v2]) (rest := []) (ctX7_speechAt σ v2) rfl rfl mv_X7_speechAt hw888 rfl ⟨Nat.le_of_ble_eq_true rfl, Nat.le_of_ble_eq_true rfl⟩ (Nat.le_of_ble_eq_true rfl) dX0_lowestMet_18 rfl) rfl (fun x2 => ?_)
    refine T_istore_n (pc := 21) (lv' := [(0, .ref 6), (1, .int v1), (2, .int v2), (3, .int x2)]) dX0_lowestMet_21 rfl (Nat.le_of_ble_eq_true rfl) rfl ?_
    refine T_iload_n (pc := 22) 3 dX0_lowestMet_22 rfl rfl ?_
    refine T_callPi (pc := 23) (rest := []) (Rn_S (pc := 23) (as := [.int x2]) (rest := []) (ctX7_rollOf σ x2) ms_X7_rollOf hw883 rfl ⟨Nat.le_of_ble_eq_true rfl, Nat.le_of_ble_eq_true rfl⟩ (Nat.le_of_ble_eq_true rfl) dX0_lowestMet_23 rfl) rfl (fun x3 => ?_)
    refine T_iload_n (pc := 26) 1 dX0_lowestMet_26 rfl rfl ?_
    refine T_callPi (pc := 27) (rest := [.int x3]) (Rn_S (pc := 27) (as := [.int v1]) (rest := [.int x3]) (ctX7_rollOf σ v1) ms_X7_rollOf hw883 rfl ⟨Nat.le_of_ble_eq_true rfl, Nat.le_of_ble_eq_true rfl⟩ (Nat.le_of_ble_eq_true rfl) dX0_lowestMet_27 rfl) rfl (fun x4 => ?_)
    refine T_icmp_eq (pc := 30) 44 dX0_lowestMet_30 (by decide) (fun _ => ?_) (fun _ => ?_)
    · refine T_iinc (pc := 44) (y := 1) (lv' := [(0, .ref 6), (1, .int v1), (2, .int (v2 + (1 : Int32))), (3, .int x2)]) 2 dX0_lowestMet_44 (by decide) rfl (Nat.le_of_ble_eq_true rfl) rfl ?_
      refine T_goto (pc := 47) 2 dX0_lowestMet_47 (by decide) ?_
      refine T_pick (lv' := [(0, .ref 6), (1, .int v1), (2, .int (v2 + (1 : Int32)))]) [0, 1, 2] rfl ?_
      exact hkb (v2 + (1 : Int32))
    · refine T_aload_n (pc := 33) 0 dX0_lowestMet_33 rfl rfl ?_
      refine T_iload_n (pc := 34) 1 dX0_lowestMet_34 rfl rfl ?_
      refine T_iload_n (pc := 35) 3 dX0_lowestMet_35 rfl rfl ?_
      refine T_callPz (pc := 36) (rest := []) (Rn_V (pc := 36) (as := [.int v1, .int x2]) (rest := []) (ctX0_closes σ v1 x2) rfl rfl mv_X0_closes hw893 rfl ⟨Nat.le_of_ble_eq_true rfl, Nat.le_of_ble_eq_true rfl⟩ (Nat.le_of_ble_eq_true rfl) dX0_lowestMet_36 rfl) rfl (fun x5 => ?_)
      refine T_if_eq (pc := 39) 44 dX0_lowestMet_39 (by decide) (fun _ => ?_) (fun _ => ?_)
      · refine T_iinc (pc := 44) (y := 1) (lv' := [(0, .ref 6), (1, .int v1), (2, .int (v2 + (1 : Int32))), (3, .int x2)]) 2 dX0_lowestMet_44 (by decide) rfl (Nat.le_of_ble_eq_true rfl) rfl ?_
        refine T_goto (pc := 47) 2 dX0_lowestMet_47 (by decide) ?_
        refine T_pick (lv' := [(0, .ref 6), (1, .int v1), (2, .int (v2 + (1 : Int32)))]) [0, 1, 2] rfl ?_
        exact hkb (v2 + (1 : Int32))
      · refine T_iload_n (pc := 42) 3 dX0_lowestMet_42 rfl rfl ?_
        exact T_ireturn (pc := 43) rfl dX0_lowestMet_43 rfl
set_option maxRecDepth 100000 in
set_option maxHeartbeats 4000000 in
theorem fX0_lowestMet_P2_T (v1 : Int32) (σ : St) (v2 : Int32) : T kX0_lowestMet (cPi σ) σ 2 [(0, .ref 6), (1, .int v1), (2, .int v2)] [] (fX0_lowestMet_P2 v1 σ v2) :=
  it_T (S := (fun _ : Int32 => σ)) (lv := fun t : Int32 => [(0, .ref 6), (1, .int v1), (2, .int t)]) (st := fun _ => []) (fun kb hkb t => fX0_lowestMet_L2_T v1 (hkb := fun v2 => hkb v2) σ t) FU v2
set_option maxRecDepth 100000 in
set_option maxHeartbeats 4000000 in
theorem ctX0_lowestMet (σ : St) (p0 : Int32) : Ct yX0_lowestMet kX0_lowestMet [.ref 6, .int p0] σ (cPi σ) (fX0_lowestMet σ p0) := by
  refine Ct.of (by decide +kernel) rfl rfl (Nat.le_of_ble_eq_true rfl) ?_
  unfold fX0_lowestMet
  show T _ _ _ 0 [(0, .ref 6), (1, .int p0)] [] _
  refine T_iconst (pc := 0) (v := 0) dX0_lowestMet_0 (by decide) ?_
  refine T_istore_n (pc := 1) (lv' := [(0, .ref 6), (1, .int p0), (2, .int (0 : Int32))]) dX0_lowestMet_1 rfl (Nat.le_of_ble_eq_true rfl) rfl ?_
  exact fX0_lowestMet_P2_T p0 σ (0 : Int32)
set_option maxRecDepth 100000 in
set_option maxHeartbeats 4000000 in
theorem fX0_joined_L14_T (v1 : Int32) (v2 : Int32) (σ : St) {k1 : St → Option (Int32 × St)} {kb : St → Int32 → Option (Int32 × St)} (hk1 : ∀ (σ' : St), T kX0_joined cSi σ' 33 [(0, .ref 6), (1, .int v1), (2, .int v2)] [] (k1 σ')) (hkb : ∀ (σ' : St) (w3 : Int32), T kX0_joined cSi σ' 14 [(0, .ref 6), (1, .int v1), (2, .int v2), (3, .int w3)] [] (kb σ' w3)) (v3 : Int32) : T kX0_joined cSi σ 14 [(0, .ref 6), (1, .int v1), (2, .int v2), (3, .int v3)] [] (fX0_joined_L14 v1 v2 k1 kb σ v3) := by
  unfold fX0_joined_L14
  refine T_iload_n (pc := 14) 3 dX0_joined_14 rfl rfl ?_
  refine T_bipush (pc := 15) (v := 8) dX0_joined_15 (by decide) ?_
  refine T_icmp_ge (pc := 17) 33 dX0_joined_17 (by decide) (fun _ => ?_) (fun _ => ?_)
  · refine T_pick (lv' := [(0, .ref 6), (1, .int v1), (2, .int v2)]) [0, 1, 2] rfl ?_
    exact hk1 σ
  · refine T_aload_n (pc := 20) 0 dX0_joined_20 rfl rfl ?_
    refine T_getA (pc := 21) fd_6_5 hw191 dX0_joined_21 ?_
    refine T_iload_n (pc := 24) 3 dX0_joined_24 rfl rfl ?_
    refine T_iconst (pc := 25) (v := 0) dX0_joined_25 (by decide) ?_
    refine T_iast (pc := 26) rfl dX0_joined_26 ?_
    refine T_letS (fun s3 => ?_)
    refine T_iinc (pc := 27) (y := 1) (lv' := [(0, .ref 6), (1, .int v1), (2, .int v2), (3, .int (v3 + (1 : Int32)))]) 3 dX0_joined_27 (by decide) rfl (Nat.le_of_ble_eq_true rfl) rfl ?_
    refine T_goto (pc := 30) 14 dX0_joined_30 (by decide) ?_
    exact hkb s3 (v3 + (1 : Int32))
set_option maxRecDepth 100000 in
set_option maxHeartbeats 4000000 in
theorem fX0_joined_P14_T (v1 : Int32) (v2 : Int32) (σ : St) {k1 : St → Option (Int32 × St)} (hk1 : ∀ (σ' : St), T kX0_joined cSi σ' 33 [(0, .ref 6), (1, .int v1), (2, .int v2)] [] (k1 σ')) (v3 : Int32) : T kX0_joined cSi σ 14 [(0, .ref 6), (1, .int v1), (2, .int v2), (3, .int v3)] [] (fX0_joined_P14 v1 v2 k1 σ v3) :=
  it_T (S := (fun t : St × Int32 => t.1)) (lv := fun t : St × Int32 => [(0, .ref 6), (1, .int v1), (2, .int v2), (3, .int t.2)]) (st := fun _ => []) (fun kb hkb t => fX0_joined_L14_T v1 v2 (hk1 := hk1) (hkb := fun σ v3 => hkb (σ, v3)) t.1 t.2) FU (σ, v3)
set_option maxRecDepth 100000 in
set_option maxHeartbeats 4000000 in
theorem fX0_joined_L35_T (v1 : Int32) (v2 : Int32) (σ : St) {k1 : St → Option (Int32 × St)} {kb : St → Int32 → Option (Int32 × St)} (hk1 : ∀ (σ' : St), T kX0_joined cSi σ' 91 [(0, .ref 6), (1, .int v1)] [] (k1 σ')) (hkb : ∀ (σ' : St) (w3 : Int32), T kX0_joined cSi σ' 35 [(0, .ref 6), (1, .int v1), (2, .int v2), (3, .int w3)] [] (kb σ' w3)) (v3 : Int32) : T kX0_joined cSi σ 35 [(0, .ref 6), (1, .int v1), (2, .int v2), (3, .int v3)] [] (fX0_joined_L35 v1 v2 k1 kb σ v3) := by
  unfold fX0_joined_L35
  refine T_iload_n (pc := 35) 3 dX0_joined_35 rfl rfl ?_
  refine T_aload_n (pc := 36) 0 dX0_joined_36 rfl rfl ?_
  refine T_getA (pc := 37) fd_6_0 hw186 dX0_joined_37 ?_
  refine T_callPi (pc := 40) (rest := [.int v3]) (Rn_V (pc := 40) (as := []) (rest := [.int v3]) (ctX7_speeches σ) rfl rfl mv_X7_speeches hw884 rfl ⟨Nat.le_of_ble_eq_true rfl, Nat.le_of_ble_eq_true rfl⟩ (Nat.le_of_ble_eq_true rfl) dX0_joined_40 rfl) rfl (fun x5 => ?_)
  refine T_icmp_ge (pc := 43) 91 dX0_joined_43 (by decide) (fun _ => ?_) (fun _ => ?_)
  · refine T_pick (lv' := [(0, .ref 6), (1, .int v1)]) [0, 1] rfl ?_
    exact hk1 σ
  · refine T_aload_n (pc := 46) 0 dX0_joined_46 rfl rfl ?_
    refine T_getA (pc := 47) fd_6_0 hw186 dX0_joined_47 ?_
    refine T_iload_n (pc := 50) 3 dX0_joined_50 rfl rfl ?_
    refine T_callPi (pc := 51) (rest := []) (Rn_V (pc := 51) (as := [.int v3]) (rest := []) (ctX7_speechAt σ v3) rfl rfl mv_X7_speechAt hw888 rfl ⟨Nat.le_of_ble_eq_true rfl, Nat.le_of_ble_eq_true rfl⟩ (Nat.le_of_ble_eq_true rfl) dX0_joined_51 rfl) rfl (fun x6 => ?_)
    refine T_istore (pc := 54) (lv' := [(0, .ref 6), (1, .int v1), (2, .int v2), (3, .int v3), (4, .int x6)]) dX0_joined_54 (Nat.le_of_ble_eq_true rfl) rfl ?_
    refine T_aload_n (pc := 56) 0 dX0_joined_56 rfl rfl ?_
    refine T_iload (pc := 57) 4 dX0_joined_57 rfl ?_
    refine T_iload_n (pc := 59) 2 dX0_joined_59 rfl rfl ?_
    refine T_callPi (pc := 60) (rest := []) (Rn_V (pc := 60) (as := [.int x6, .int v2]) (rest := []) (ctX0_metBy σ x6 v2) rfl rfl mv_X0_metBy hw879 rfl ⟨Nat.le_of_ble_eq_true rfl, Nat.le_of_ble_eq_true rfl⟩ (Nat.le_of_ble_eq_true rfl) dX0_joined_60 rfl) rfl (fun x7 => ?_)
    refine T_iconst (pc := 63) (v := 1) dX0_joined_63 (by decide) ?_
    refine T_icmp_ne (pc := 64) 85 dX0_joined_64 (by decide) (fun _ => ?_) (fun _ => ?_)
    · refine T_iinc (pc := 85) (y := 1) (lv' := [(0, .ref 6), (1, .int v1), (2, .int v2), (3, .int (v3 + (1 : Int32))), (4, .int x6)]) 3 dX0_joined_85 (by decide) rfl (Nat.le_of_ble_eq_true rfl) rfl ?_
      refine T_goto (pc := 88) 35 dX0_joined_88 (by decide) ?_
      refine T_pick (lv' := [(0, .ref 6), (1, .int v1), (2, .int v2), (3, .int (v3 + (1 : Int32)))]) [0, 1, 2, 3] rfl ?_
      exact hkb σ (v3 + (1 : Int32))
    · refine T_aload_n (pc := 67) 0 dX0_joined_67 rfl rfl ?_
      refine T_iload (pc := 68) 4 dX0_joined_68 rfl ?_
      refine T_callPi (pc := 70) (rest := [.ref 6]) (Rn_S (pc := 70) (as := [.int x6]) (rest := [.ref 6]) (ctX7_rollOf σ x6) ms_X7_rollOf hw883 rfl ⟨Nat.le_of_ble_eq_true rfl, Nat.le_of_ble_eq_true rfl⟩ (Nat.le_of_ble_eq_true rfl) dX0_joined_70 rfl) rfl (fun x8 => ?_)
      refine T_aload_n (pc := 73) 0 dX0_joined_73 rfl rfl ?_
      refine T_iload (pc := 74) 4 dX0_joined_74 rfl ?_
      refine T_callPi (pc := 76) (rest := [.int x8, .ref 6]) (Rn_V (pc := 76) (as := [.int x6]) (rest := [.int x8, .ref 6]) (ctX0_lowestMet σ x6) rfl rfl mv_X0_lowestMet hw1086 rfl ⟨Nat.le_of_ble_eq_true rfl, Nat.le_of_ble_eq_true rfl⟩ (Nat.le_of_ble_eq_true rfl) dX0_joined_76 rfl) rfl (fun x9 => ?_)
      refine T_callPi (pc := 79) (rest := [.int x8, .ref 6]) (Rn_S (pc := 79) (as := [.int x9]) (rest := [.int x8, .ref 6]) (ctX7_rollOf σ x9) ms_X7_rollOf hw883 rfl ⟨Nat.le_of_ble_eq_true rfl, Nat.le_of_ble_eq_true rfl⟩ (Nat.le_of_ble_eq_true rfl) dX0_joined_79 rfl) rfl (fun x10 => ?_)
      refine T_callSv (pc := 82) (rest := []) (Rn_V (pc := 82) (as := [.int x8, .int x10]) (rest := []) (ctX0_join σ x8 x10) rfl rfl mv_X0_join hw1090 rfl ⟨Nat.le_of_ble_eq_true rfl, Nat.le_of_ble_eq_true rfl⟩ (Nat.le_of_ble_eq_true rfl) dX0_joined_82 rfl) rfl (fun s11 => ?_)
      refine T_iinc (pc := 85) (y := 1) (lv' := [(0, .ref 6), (1, .int v1), (2, .int v2), (3, .int (v3 + (1 : Int32))), (4, .int x6)]) 3 dX0_joined_85 (by decide) rfl (Nat.le_of_ble_eq_true rfl) rfl ?_
      refine T_goto (pc := 88) 35 dX0_joined_88 (by decide) ?_
      refine T_pick (lv' := [(0, .ref 6), (1, .int v1), (2, .int v2), (3, .int (v3 + (1 : Int32)))]) [0, 1, 2, 3] rfl ?_
      exact hkb s11 (v3 + (1 : Int32))
set_option maxRecDepth 100000 in
set_option maxHeartbeats 4000000 in
theorem fX0_joined_P35_T (v1 : Int32) (v2 : Int32) (σ : St) {k1 : St → Option (Int32 × St)} (hk1 : ∀ (σ' : St), T kX0_joined cSi σ' 91 [(0, .ref 6), (1, .int v1)] [] (k1 σ')) (v3 : Int32) : T kX0_joined cSi σ 35 [(0, .ref 6), (1, .int v1), (2, .int v2), (3, .int v3)] [] (fX0_joined_P35 v1 v2 k1 σ v3) :=
  it_T (S := (fun t : St × Int32 => t.1)) (lv := fun t : St × Int32 => [(0, .ref 6), (1, .int v1), (2, .int v2), (3, .int t.2)]) (st := fun _ => []) (fun kb hkb t => fX0_joined_L35_T v1 v2 (hk1 := hk1) (hkb := fun σ v3 => hkb (σ, v3)) t.1 t.2) FU (σ, v3)
set_option maxRecDepth 100000 in
set_option maxHeartbeats 4000000 in
theorem fX0_joined_L108_T (v4 : Int32) (σ : St) {k1 : Int32 → Option (Int32 × St)} {kb : Int32 → Int32 → Option (Int32 × St)} (hk1 : ∀ (w3 : Int32), T kX0_joined cSi σ 144 [(0, .ref 6), (3, .int w3), (4, .int v4)] [] (k1 w3)) (hkb : ∀ (w3 : Int32) (w5 : Int32), T kX0_joined cSi σ 108 [(0, .ref 6), (3, .int w3), (4, .int v4), (5, .int w5)] [] (kb w3 w5)) (v3 : Int32) (v5 : Int32) : T kX0_joined cSi σ 108 [(0, .ref 6), (3, .int v3), (4, .int v4), (5, .int v5)] [] (fX0_joined_L108 v4 k1 kb σ v3 v5) := by
  unfold fX0_joined_L108
  refine T_iload (pc := 108) 3 dX0_joined_108 rfl ?_
  refine T_bipush (pc := 110) (v := 8) dX0_joined_110 (by decide) ?_
  refine T_icmp_ge (pc := 112) 144 dX0_joined_112 (by decide) (fun _ => ?_) (fun _ => ?_)
  · refine T_pick (lv' := [(0, .ref 6), (3, .int v3), (4, .int v4)]) [0, 1, 2] rfl ?_
    exact hk1 v3
  · refine T_iload_n (pc := 115) 1 dX0_joined_115 rfl rfl ?_
    refine T_iload (pc := 116) 3 dX0_joined_116 rfl ?_
    refine T_iload_n (pc := 118) 1 dX0_joined_118 rfl rfl ?_
    refine T_callPz (pc := 119) (rest := [.int v3]) (Rn_S (pc := 119) (as := [.int v5, .int v3]) (rest := [.int v3]) (ctX7_isIn σ v5 v3) ms_X7_isIn hw1094 rfl ⟨Nat.le_of_ble_eq_true rfl, Nat.le_of_ble_eq_true rfl⟩ (Nat.le_of_ble_eq_true rfl) dX0_joined_119 rfl) rfl (fun x14 => ?_)
    refine T_if_eq (pc := 122) 135 dX0_joined_122 (by decide) (fun _ => ?_) (fun _ => ?_)
    · refine T_iconst (pc := 135) (v := 0) dX0_joined_135 (by decide) ?_
      refine T_ior (pc := 136) dX0_joined_136 ?_
      refine T_letI (fun x15 => ?_)
      refine T_istore_n (pc := 137) (lv' := [(0, .ref 6), (3, .int x15), (4, .int v4), (5, .int v5)]) dX0_joined_137 rfl (Nat.le_of_ble_eq_true rfl) rfl ?_
      refine T_iinc (pc := 138) (y := 1) (lv' := [(0, .ref 6), (3, .int x15), (4, .int v4), (5, .int (v5 + (1 : Int32)))]) 3 dX0_joined_138 (by decide) rfl (Nat.le_of_ble_eq_true rfl) rfl ?_
      refine T_goto (pc := 141) 108 dX0_joined_141 (by decide) ?_
      exact hkb x15 (v5 + (1 : Int32))
    · refine T_aload_n (pc := 125) 0 dX0_joined_125 rfl rfl ?_
      refine T_getA (pc := 126) fd_6_5 hw191 dX0_joined_126 ?_
      refine T_iload (pc := 129) 3 dX0_joined_129 rfl ?_
      refine T_iald (pc := 131) rfl dX0_joined_131 (fun x16 => ?_)
      refine T_goto (pc := 132) 136 dX0_joined_132 (by decide) ?_
      refine T_ior (pc := 136) dX0_joined_136 ?_
      refine T_letI (fun x17 => ?_)
      refine T_istore_n (pc := 137) (lv' := [(0, .ref 6), (3, .int x17), (4, .int v4), (5, .int v5)]) dX0_joined_137 rfl (Nat.le_of_ble_eq_true rfl) rfl ?_
      refine T_iinc (pc := 138) (y := 1) (lv' := [(0, .ref 6), (3, .int x17), (4, .int v4), (5, .int (v5 + (1 : Int32)))]) 3 dX0_joined_138 (by decide) rfl (Nat.le_of_ble_eq_true rfl) rfl ?_
      refine T_goto (pc := 141) 108 dX0_joined_141 (by decide) ?_
      exact hkb x17 (v5 + (1 : Int32))
set_option maxRecDepth 100000 in
set_option maxHeartbeats 4000000 in
theorem fX0_joined_P108_T (v4 : Int32) (σ : St) {k1 : Int32 → Option (Int32 × St)} (hk1 : ∀ (w3 : Int32), T kX0_joined cSi σ 144 [(0, .ref 6), (3, .int w3), (4, .int v4)] [] (k1 w3)) (v3 : Int32) (v5 : Int32) : T kX0_joined cSi σ 108 [(0, .ref 6), (3, .int v3), (4, .int v4), (5, .int v5)] [] (fX0_joined_P108 v4 k1 σ v3 v5) :=
  it_T (S := (fun _ : Int32 × Int32 => σ)) (lv := fun t : Int32 × Int32 => [(0, .ref 6), (3, .int t.1), (4, .int v4), (5, .int t.2)]) (st := fun _ => []) (fun kb hkb t => fX0_joined_L108_T v4 (hk1 := hk1) (hkb := fun v3 v5 => hkb (v3, v5)) σ t.1 t.2) FU (v3, v5)
set_option maxRecDepth 100000 in
set_option maxHeartbeats 4000000 in
theorem fX0_joined_L98_T (σ : St) {kb : Int32 → Int32 → Option (Int32 × St)} (hkb : ∀ (w3 : Int32) (w4 : Int32), T kX0_joined cSi σ 98 [(0, .ref 6), (3, .int w3), (4, .int w4)] [] (kb w3 w4)) (v3 : Int32) (v4 : Int32) : T kX0_joined cSi σ 98 [(0, .ref 6), (3, .int v3), (4, .int v4)] [] (fX0_joined_L98 kb σ v3 v4) := by
  unfold fX0_joined_L98
  refine T_iload (pc := 98) 2 dX0_joined_98 rfl ?_
  refine T_bipush (pc := 100) (v := 8) dX0_joined_100 (by decide) ?_
  refine T_icmp_ge (pc := 102) 150 dX0_joined_102 (by decide) (fun _ => ?_) (fun _ => ?_)
  · refine T_iload_n (pc := 150) 1 dX0_joined_150 rfl rfl ?_
    exact T_ireturn (pc := 151) rfl dX0_joined_151 rfl
  · refine T_iconst (pc := 105) (v := 0) dX0_joined_105 (by decide) ?_
    refine T_istore (pc := 106) (lv' := [(0, .ref 6), (3, .int v3), (4, .int v4), (5, .int (0 : Int32))]) dX0_joined_106 (Nat.le_of_ble_eq_true rfl) rfl ?_
    refine fX0_joined_P108_T v4 (hk1 := fun x18 => ?_) σ v3 (0 : Int32)
    · refine T_iinc (pc := 144) (y := 1) (lv' := [(0, .ref 6), (3, .int x18), (4, .int (v4 + (1 : Int32)))]) 2 dX0_joined_144 (by decide) rfl (Nat.le_of_ble_eq_true rfl) rfl ?_
      refine T_goto (pc := 147) 98 dX0_joined_147 (by decide) ?_
      exact hkb x18 (v4 + (1 : Int32))
set_option maxRecDepth 100000 in
set_option maxHeartbeats 4000000 in
theorem fX0_joined_P98_T (σ : St) (v3 : Int32) (v4 : Int32) : T kX0_joined cSi σ 98 [(0, .ref 6), (3, .int v3), (4, .int v4)] [] (fX0_joined_P98 σ v3 v4) :=
  it_T (S := (fun _ : Int32 × Int32 => σ)) (lv := fun t : Int32 × Int32 => [(0, .ref 6), (3, .int t.1), (4, .int t.2)]) (st := fun _ => []) (fun kb hkb t => fX0_joined_L98_T (hkb := fun v3 v4 => hkb (v3, v4)) σ t.1 t.2) FU (v3, v4)
set_option maxRecDepth 100000 in
set_option maxHeartbeats 4000000 in
theorem ctX0_joined (σ : St) (p0 : Int32) : Ct yX0_joined kX0_joined [.ref 6, .int p0] σ cSi (fX0_joined σ p0) := by
  refine Ct.of (by decide +kernel) rfl rfl (Nat.le_of_ble_eq_true rfl) ?_
  unfold fX0_joined
  show T _ _ _ 0 [(0, .ref 6), (1, .int p0)] [] _
  refine T_iconst (pc := 0) (v := 1) dX0_joined_0 (by decide) ?_
  refine T_aload_n (pc := 1) 0 dX0_joined_1 rfl rfl ?_
  refine T_getA (pc := 2) fd_6_0 hw186 dX0_joined_2 ?_
  refine T_callPi (pc := 5) (rest := [.int (1 : Int32)]) (Rn_V (pc := 5) (as := []) (rest := [.int (1 : Int32)]) (ctX7_number σ) rfl rfl mv_X7_number hw1082 rfl ⟨Nat.le_of_ble_eq_true rfl, Nat.le_of_ble_eq_true rfl⟩ (Nat.le_of_ble_eq_true rfl) dX0_joined_5 rfl) rfl (fun x1 => ?_)
  refine T_ishl (pc := 8) dX0_joined_8 ?_
  refine T_iconst (pc := 9) (v := 1) dX0_joined_9 (by decide) ?_
  refine T_isub (pc := 10) dX0_joined_10 ?_
  refine T_letI (fun x2 => ?_)
  refine T_istore_n (pc := 11) (lv' := [(0, .ref 6), (1, .int p0), (2, .int x2)]) dX0_joined_11 rfl (Nat.le_of_ble_eq_true rfl) rfl ?_
  refine T_iconst (pc := 12) (v := 0) dX0_joined_12 (by decide) ?_
  refine T_istore_n (pc := 13) (lv' := [(0, .ref 6), (1, .int p0), (2, .int x2), (3, .int (0 : Int32))]) dX0_joined_13 rfl (Nat.le_of_ble_eq_true rfl) rfl ?_
  refine fX0_joined_P14_T p0 x2 (hk1 := fun s4 => ?_) σ (0 : Int32)
  · refine T_iconst (pc := 33) (v := 0) dX0_joined_33 (by decide) ?_
    refine T_istore_n (pc := 34) (lv' := [(0, .ref 6), (1, .int p0), (2, .int x2), (3, .int (0 : Int32))]) dX0_joined_34 rfl (Nat.le_of_ble_eq_true rfl) rfl ?_
    refine fX0_joined_P35_T p0 x2 (hk1 := fun s12 => ?_) s4 (0 : Int32)
    · refine T_iconst (pc := 91) (v := 1) dX0_joined_91 (by decide) ?_
      refine T_iload_n (pc := 92) 1 dX0_joined_92 rfl rfl ?_
      refine T_ishl (pc := 93) dX0_joined_93 ?_
      refine T_letI (fun x13 => ?_)
      refine T_istore_n (pc := 94) (lv' := [(0, .ref 6), (1, .int p0), (3, .int x13)]) dX0_joined_94 rfl (Nat.le_of_ble_eq_true rfl) rfl ?_
      refine T_iconst (pc := 95) (v := 0) dX0_joined_95 (by decide) ?_
      refine T_istore (pc := 96) (lv' := [(0, .ref 6), (1, .int p0), (3, .int x13), (4, .int (0 : Int32))]) dX0_joined_96 (Nat.le_of_ble_eq_true rfl) rfl ?_
      refine T_pick (lv' := [(0, .ref 6), (3, .int x13), (4, .int (0 : Int32))]) [0, 2, 3] rfl ?_
      exact fX0_joined_P98_T s12 x13 (0 : Int32)
set_option maxRecDepth 100000 in
set_option maxHeartbeats 4000000 in
theorem fX0_leastFar_L20_T (v1 : Int32) (v3 : Int32) (σ : St) {kb : St → Int32 → Int32 → Int32 → Option (Int32 × St)} (hkb : ∀ (σ' : St) (w4 : Int32) (w5 : Int32) (w6 : Int32), T kX0_leastFar cSi σ' 20 [(0, .ref 6), (1, .int v1), (3, .int v3), (4, .int w4), (5, .int w5), (6, .int w6)] [] (kb σ' w4 w5 w6)) (v4 : Int32) (v5 : Int32) (v6 : Int32) : T kX0_leastFar cSi σ 20 [(0, .ref 6), (1, .int v1), (3, .int v3), (4, .int v4), (5, .int v5), (6, .int v6)] [] (fX0_leastFar_L20 v1 v3 kb σ v4 v5 v6) := by
  unfold fX0_leastFar_L20
  refine T_iload (pc := 20) 5 dX0_leastFar_20 rfl ?_
  refine T_aload_n (pc := 22) 0 dX0_leastFar_22 rfl rfl ?_
  refine T_getA (pc := 23) fd_6_0 hw186 dX0_leastFar_23 ?_
  refine T_callPi (pc := 26) (rest := [.int v6]) (Rn_V (pc := 26) (as := []) (rest := [.int v6]) (ctX7_speeches σ) rfl rfl mv_X7_speeches hw884 rfl ⟨Nat.le_of_ble_eq_true rfl, Nat.le_of_ble_eq_true rfl⟩ (Nat.le_of_ble_eq_true rfl) dX0_leastFar_26 rfl) rfl (fun x3 => ?_)
  refine T_icmp_ge (pc := 29) 88 dX0_leastFar_29 (by decide) (fun _ => ?_) (fun _ => ?_)
  · refine T_iload (pc := 88) 3 dX0_leastFar_88 rfl ?_
    exact T_ireturn (pc := 90) rfl dX0_leastFar_90 rfl
  · refine T_aload_n (pc := 32) 0 dX0_leastFar_32 rfl rfl ?_
    refine T_getA (pc := 33) fd_6_0 hw186 dX0_leastFar_33 ?_
    refine T_iload (pc := 36) 5 dX0_leastFar_36 rfl ?_
    refine T_callPi (pc := 38) (rest := []) (Rn_V (pc := 38) (as := [.int v6]) (rest := []) (ctX7_speechAt σ v6) rfl rfl mv_X7_speechAt hw888 rfl ⟨Nat.le_of_ble_eq_true rfl, Nat.le_of_ble_eq_true rfl⟩ (Nat.le_of_ble_eq_true rfl) dX0_leastFar_38 rfl) rfl (fun x4 => ?_)
    refine T_istore (pc := 41) (lv' := [(0, .ref 6), (1, .int v1), (3, .int v3), (4, .int v4), (5, .int v5), (6, .int v6), (7, .int x4)]) dX0_leastFar_41 (Nat.le_of_ble_eq_true rfl) rfl ?_
    refine T_iload (pc := 43) 6 dX0_leastFar_43 rfl ?_
    refine T_iload_n (pc := 45) 2 dX0_leastFar_45 rfl rfl ?_
    refine T_callPz (pc := 46) (rest := []) (Rn_S (pc := 46) (as := [.int x4, .int v3]) (rest := []) (ctX7_isOf σ x4 v3) ms_X7_isOf hw892 rfl ⟨Nat.le_of_ble_eq_true rfl, Nat.le_of_ble_eq_true rfl⟩ (Nat.le_of_ble_eq_true rfl) dX0_leastFar_46 rfl) rfl (fun x5 => ?_)
    refine T_if_eq (pc := 49) 82 dX0_leastFar_49 (by decide) (fun _ => ?_) (fun _ => ?_)
    · refine T_iinc (pc := 82) (y := 1) (lv' := [(0, .ref 6), (1, .int v1), (3, .int v3), (4, .int v4), (5, .int v5), (6, .int (v6 + (1 : Int32))), (7, .int x4)]) 5 dX0_leastFar_82 (by decide) rfl (Nat.le_of_ble_eq_true rfl) rfl ?_
      refine T_goto (pc := 85) 20 dX0_leastFar_85 (by decide) ?_
      refine T_pick (lv' := [(0, .ref 6), (1, .int v1), (3, .int v3), (4, .int v4), (5, .int v5), (6, .int (v6 + (1 : Int32)))]) [0, 1, 2, 3, 4, 5] rfl ?_
      exact hkb σ v4 v5 (v6 + (1 : Int32))
    · refine T_aload_n (pc := 52) 0 dX0_leastFar_52 rfl rfl ?_
      refine T_iload_n (pc := 53) 1 dX0_leastFar_53 rfl rfl ?_
      refine T_iload (pc := 54) 6 dX0_leastFar_54 rfl ?_
      refine T_callSi (pc := 56) (rest := []) (Rn_V (pc := 56) (as := [.int v1, .int x4]) (rest := []) (ctX0_distance σ v1 x4) rfl rfl mv_X0_distance hw902 rfl ⟨Nat.le_of_ble_eq_true rfl, Nat.le_of_ble_eq_true rfl⟩ (Nat.le_of_ble_eq_true rfl) dX0_leastFar_56 rfl) rfl (fun r6 => ?_)
      refine T_istore (pc := 59) (lv' := [(0, .ref 6), (1, .int v1), (3, .int v3), (4, .int v4), (5, .int v5), (6, .int v6), (7, .int x4), (8, .int r6.1)]) dX0_leastFar_59 (Nat.le_of_ble_eq_true rfl) rfl ?_
      refine T_iload (pc := 61) 3 dX0_leastFar_61 rfl ?_
      refine T_iconst (pc := 63) (v := -1) dX0_leastFar_63 (by decide) ?_
      refine T_icmp_eq (pc := 64) 74 dX0_leastFar_64 (by decide) (fun _ => ?_) (fun _ => ?_)
      · refine T_iload (pc := 74) 6 dX0_leastFar_74 rfl ?_
        refine T_istore (pc := 76) (lv' := [(0, .ref 6), (1, .int v1), (3, .int v3), (4, .int x4), (5, .int v5), (6, .int v6), (7, .int x4), (8, .int r6.1)]) dX0_leastFar_76 (Nat.le_of_ble_eq_true rfl) rfl ?_
        refine T_iload (pc := 78) 7 dX0_leastFar_78 rfl ?_
        refine T_istore (pc := 80) (lv' := [(0, .ref 6), (1, .int v1), (3, .int v3), (4, .int x4), (5, .int r6.1), (6, .int v6), (7, .int x4), (8, .int r6.1)]) dX0_leastFar_80 (Nat.le_of_ble_eq_true rfl) rfl ?_
        refine T_iinc (pc := 82) (y := 1) (lv' := [(0, .ref 6), (1, .int v1), (3, .int v3), (4, .int x4), (5, .int r6.1), (6, .int (v6 + (1 : Int32))), (7, .int x4), (8, .int r6.1)]) 5 dX0_leastFar_82 (by decide) rfl (Nat.le_of_ble_eq_true rfl) rfl ?_
        refine T_goto (pc := 85) 20 dX0_leastFar_85 (by decide) ?_
        refine T_pick (lv' := [(0, .ref 6), (1, .int v1), (3, .int v3), (4, .int x4), (5, .int r6.1), (6, .int (v6 + (1 : Int32)))]) [0, 1, 2, 3, 4, 5] rfl ?_
        exact hkb r6.2 x4 r6.1 (v6 + (1 : Int32))
      · refine T_iload (pc := 67) 7 dX0_leastFar_67 rfl ?_
        refine T_iload (pc := 69) 4 dX0_leastFar_69 rfl ?_
        refine T_icmp_ge (pc := 71) 82 dX0_leastFar_71 (by decide) (fun _ => ?_) (fun _ => ?_)
        · refine T_iinc (pc := 82) (y := 1) (lv' := [(0, .ref 6), (1, .int v1), (3, .int v3), (4, .int v4), (5, .int v5), (6, .int (v6 + (1 : Int32))), (7, .int x4), (8, .int r6.1)]) 5 dX0_leastFar_82 (by decide) rfl (Nat.le_of_ble_eq_true rfl) rfl ?_
          refine T_goto (pc := 85) 20 dX0_leastFar_85 (by decide) ?_
          refine T_pick (lv' := [(0, .ref 6), (1, .int v1), (3, .int v3), (4, .int v4), (5, .int v5), (6, .int (v6 + (1 : Int32)))]) [0, 1, 2, 3, 4, 5] rfl ?_
          exact hkb r6.2 v4 v5 (v6 + (1 : Int32))
        · refine T_iload (pc := 74) 6 dX0_leastFar_74 rfl ?_
          refine T_istore (pc := 76) (lv' := [(0, .ref 6), (1, .int v1), (3, .int v3), (4, .int x4), (5, .int v5), (6, .int v6), (7, .int x4), (8, .int r6.1)]) dX0_leastFar_76 (Nat.le_of_ble_eq_true rfl) rfl ?_
          refine T_iload (pc := 78) 7 dX0_leastFar_78 rfl ?_
          refine T_istore (pc := 80) (lv' := [(0, .ref 6), (1, .int v1), (3, .int v3), (4, .int x4), (5, .int r6.1), (6, .int v6), (7, .int x4), (8, .int r6.1)]) dX0_leastFar_80 (Nat.le_of_ble_eq_true rfl) rfl ?_
          refine T_iinc (pc := 82) (y := 1) (lv' := [(0, .ref 6), (1, .int v1), (3, .int v3), (4, .int x4), (5, .int r6.1), (6, .int (v6 + (1 : Int32))), (7, .int x4), (8, .int r6.1)]) 5 dX0_leastFar_82 (by decide) rfl (Nat.le_of_ble_eq_true rfl) rfl ?_
          refine T_goto (pc := 85) 20 dX0_leastFar_85 (by decide) ?_
          refine T_pick (lv' := [(0, .ref 6), (1, .int v1), (3, .int v3), (4, .int x4), (5, .int r6.1), (6, .int (v6 + (1 : Int32)))]) [0, 1, 2, 3, 4, 5] rfl ?_
          exact hkb r6.2 x4 r6.1 (v6 + (1 : Int32))
set_option maxRecDepth 100000 in
set_option maxHeartbeats 4000000 in
theorem fX0_leastFar_P20_T (v1 : Int32) (v3 : Int32) (σ : St) (v4 : Int32) (v5 : Int32) (v6 : Int32) : T kX0_leastFar cSi σ 20 [(0, .ref 6), (1, .int v1), (3, .int v3), (4, .int v4), (5, .int v5), (6, .int v6)] [] (fX0_leastFar_P20 v1 v3 σ v4 v5 v6) :=
  it_T (S := (fun t : St × Int32 × Int32 × Int32 => t.1)) (lv := fun t : St × Int32 × Int32 × Int32 => [(0, .ref 6), (1, .int v1), (3, .int v3), (4, .int t.2.1), (5, .int t.2.2.1), (6, .int t.2.2.2)]) (st := fun _ => []) (fun kb hkb t => fX0_leastFar_L20_T v1 v3 (hkb := fun σ v4 v5 v6 => hkb (σ, v4, v5, v6)) t.1 t.2.1 t.2.2.1 t.2.2.2) FU (σ, v4, v5, v6)
set_option maxRecDepth 100000 in
set_option maxHeartbeats 4000000 in
theorem ctX0_leastFar (σ : St) (p0 : Int32) (p1 : Int32) : Ct yX0_leastFar kX0_leastFar [.ref 6, .int p0, .int p1] σ cSi (fX0_leastFar σ p0 p1) := by
  refine Ct.of (by decide +kernel) rfl rfl (Nat.le_of_ble_eq_true rfl) ?_
  unfold fX0_leastFar
  show T _ _ _ 0 [(0, .ref 6), (1, .int p0), (2, .int p1)] [] _
  refine T_iload_n (pc := 0) 2 dX0_leastFar_0 rfl rfl ?_
  refine T_iconst (pc := 1) (v := 1) dX0_leastFar_1 (by decide) ?_
  refine T_iload_n (pc := 2) 1 dX0_leastFar_2 rfl rfl ?_
  refine T_callPi (pc := 3) (rest := [.int (1 : Int32), .int p1]) (Rn_S (pc := 3) (as := [.int p0]) (rest := [.int (1 : Int32), .int p1]) (ctX7_rollOf σ p0) ms_X7_rollOf hw883 rfl ⟨Nat.le_of_ble_eq_true rfl, Nat.le_of_ble_eq_true rfl⟩ (Nat.le_of_ble_eq_true rfl) dX0_leastFar_3 rfl) rfl (fun x1 => ?_)
  refine T_ishl (pc := 6) dX0_leastFar_6 ?_
  refine T_iconst (pc := 7) (v := -1) dX0_leastFar_7 (by decide) ?_
  refine T_ixor (pc := 8) dX0_leastFar_8 ?_
  refine T_iand (pc := 9) dX0_leastFar_9 ?_
  refine T_letI (fun x2 => ?_)
  refine T_istore_n (pc := 10) (lv' := [(0, .ref 6), (1, .int p0), (2, .int p1), (3, .int x2)]) dX0_leastFar_10 rfl (Nat.le_of_ble_eq_true rfl) rfl ?_
  refine T_iconst (pc := 11) (v := -1) dX0_leastFar_11 (by decide) ?_
  refine T_istore (pc := 12) (lv' := [(0, .ref 6), (1, .int p0), (2, .int p1), (3, .int x2), (4, .int (-1 : Int32))]) dX0_leastFar_12 (Nat.le_of_ble_eq_true rfl) rfl ?_
  refine T_iconst (pc := 14) (v := 0) dX0_leastFar_14 (by decide) ?_
  refine T_istore (pc := 15) (lv' := [(0, .ref 6), (1, .int p0), (2, .int p1), (3, .int x2), (4, .int (-1 : Int32)), (5, .int (0 : Int32))]) dX0_leastFar_15 (Nat.le_of_ble_eq_true rfl) rfl ?_
  refine T_iconst (pc := 17) (v := 0) dX0_leastFar_17 (by decide) ?_
  refine T_istore (pc := 18) (lv' := [(0, .ref 6), (1, .int p0), (2, .int p1), (3, .int x2), (4, .int (-1 : Int32)), (5, .int (0 : Int32)), (6, .int (0 : Int32))]) dX0_leastFar_18 (Nat.le_of_ble_eq_true rfl) rfl ?_
  refine T_pick (lv' := [(0, .ref 6), (1, .int p0), (3, .int x2), (4, .int (-1 : Int32)), (5, .int (0 : Int32)), (6, .int (0 : Int32))]) [0, 1, 3, 4, 5, 6] rfl ?_
  exact fX0_leastFar_P20_T p0 x2 σ (-1 : Int32) (0 : Int32) (0 : Int32)
set_option maxRecDepth 100000 in
set_option maxHeartbeats 4000000 in
theorem ctX0_limitNow (σ : St) : Ct yX0_limitNow kX0_limitNow [.ref 6] σ (cPi σ) (fX0_limitNow σ) := by
  refine Ct.of (by decide +kernel) rfl rfl (Nat.le_of_ble_eq_true rfl) ?_
  unfold fX0_limitNow
  show T _ _ _ 0 [(0, .ref 6)] [] _
  refine T_aload_n (pc := 0) 0 dX0_limitNow_0 rfl rfl ?_
  refine T_getI (pc := 1) fd_6_6 hw192 dX0_limitNow_1 ?_
  exact T_ireturn (pc := 4) rfl dX0_limitNow_4 rfl
set_option maxRecDepth 100000 in
set_option maxHeartbeats 4000000 in
theorem ctX0_setLimit (σ : St) (p0 : Int32) : Ct yX0_setLimit kX0_setLimit [.ref 6, .int p0] σ cSz (fX0_setLimit σ p0) := by
  refine Ct.of (by decide +kernel) rfl rfl (Nat.le_of_ble_eq_true rfl) ?_
  unfold fX0_setLimit
  show T _ _ _ 0 [(0, .ref 6), (1, .int p0)] [] _
  refine T_iload_n (pc := 0) 1 dX0_setLimit_0 rfl rfl ?_
  refine T_if_lt (pc := 1) 10 dX0_setLimit_1 (by decide) (fun _ => ?_) (fun _ => ?_)
  · refine T_iconst (pc := 10) (v := 0) dX0_setLimit_10 (by decide) ?_
    exact T_zreturn (pc := 11) false rfl dX0_setLimit_11 rfl rfl
  · refine T_iload_n (pc := 4) 1 dX0_setLimit_4 rfl rfl ?_
    refine T_bipush (pc := 5) (v := 8) dX0_setLimit_5 (by decide) ?_
    refine T_icmp_le (pc := 7) 12 dX0_setLimit_7 (by decide) (fun _ => ?_) (fun _ => ?_)
    · refine T_aload_n (pc := 12) 0 dX0_setLimit_12 rfl rfl ?_
      refine T_iload_n (pc := 13) 1 dX0_setLimit_13 rfl rfl ?_
      refine T_putI (pc := 14) fd_6_6 hw192 dX0_setLimit_14 ?_
      refine T_letS (fun s1 => ?_)
      refine T_iconst (pc := 17) (v := 1) dX0_setLimit_17 (by decide) ?_
      exact T_zreturn (pc := 18) true rfl dX0_setLimit_18 rfl rfl
    · refine T_iconst (pc := 10) (v := 0) dX0_setLimit_10 (by decide) ?_
      exact T_zreturn (pc := 11) false rfl dX0_setLimit_11 rfl rfl
set_option maxRecDepth 100000 in
set_option maxHeartbeats 4000000 in
theorem fX0_settledBy_L5_T (v1 : Int32) (v2 : Int32) (σ : St) {kb : Int32 → Int32 → Option Int32} (hkb : ∀ (w3 : Int32) (w4 : Int32), T kX0_settledBy (cPi σ) σ 5 [(0, .ref 6), (1, .int v1), (2, .int v2), (3, .int w3), (4, .int w4)] [] (kb w3 w4)) (v3 : Int32) (v4 : Int32) : T kX0_settledBy (cPi σ) σ 5 [(0, .ref 6), (1, .int v1), (2, .int v2), (3, .int v3), (4, .int v4)] [] (fX0_settledBy_L5 v1 v2 kb σ v3 v4) := by
  unfold fX0_settledBy_L5
  refine T_iload (pc := 5) 4 dX0_settledBy_5 rfl ?_
  refine T_aload_n (pc := 7) 0 dX0_settledBy_7 rfl rfl ?_
  refine T_getA (pc := 8) fd_6_0 hw186 dX0_settledBy_8 ?_
  refine T_callPi (pc := 11) (rest := [.int v4]) (Rn_V (pc := 11) (as := []) (rest := [.int v4]) (ctX7_speeches σ) rfl rfl mv_X7_speeches hw884 rfl ⟨Nat.le_of_ble_eq_true rfl, Nat.le_of_ble_eq_true rfl⟩ (Nat.le_of_ble_eq_true rfl) dX0_settledBy_11 rfl) rfl (fun x1 => ?_)
  refine T_icmp_ge (pc := 14) 68 dX0_settledBy_14 (by decide) (fun _ => ?_) (fun _ => ?_)
  · refine T_iload_n (pc := 68) 3 dX0_settledBy_68 rfl rfl ?_
    exact T_ireturn (pc := 69) rfl dX0_settledBy_69 rfl
  · refine T_aload_n (pc := 17) 0 dX0_settledBy_17 rfl rfl ?_
    refine T_getA (pc := 18) fd_6_0 hw186 dX0_settledBy_18 ?_
    refine T_iload (pc := 21) 4 dX0_settledBy_21 rfl ?_
    refine T_callPi (pc := 23) (rest := []) (Rn_V (pc := 23) (as := [.int v4]) (rest := []) (ctX7_speechAt σ v4) rfl rfl mv_X7_speechAt hw888 rfl ⟨Nat.le_of_ble_eq_true rfl, Nat.le_of_ble_eq_true rfl⟩ (Nat.le_of_ble_eq_true rfl) dX0_settledBy_23 rfl) rfl (fun x2 => ?_)
    refine T_istore (pc := 26) (lv' := [(0, .ref 6), (1, .int v1), (2, .int v2), (3, .int v3), (4, .int v4), (5, .int x2)]) dX0_settledBy_26 (Nat.le_of_ble_eq_true rfl) rfl ?_
    refine T_iload (pc := 28) 5 dX0_settledBy_28 rfl ?_
    refine T_iload_n (pc := 30) 2 dX0_settledBy_30 rfl rfl ?_
    refine T_callPz (pc := 31) (rest := []) (Rn_S (pc := 31) (as := [.int x2, .int v2]) (rest := []) (ctX7_isOf σ x2 v2) ms_X7_isOf hw892 rfl ⟨Nat.le_of_ble_eq_true rfl, Nat.le_of_ble_eq_true rfl⟩ (Nat.le_of_ble_eq_true rfl) dX0_settledBy_31 rfl) rfl (fun x3 => ?_)
    refine T_if_eq (pc := 34) 62 dX0_settledBy_34 (by decide) (fun _ => ?_) (fun _ => ?_)
    · refine T_iinc (pc := 62) (y := 1) (lv' := [(0, .ref 6), (1, .int v1), (2, .int v2), (3, .int v3), (4, .int (v4 + (1 : Int32))), (5, .int x2)]) 4 dX0_settledBy_62 (by decide) rfl (Nat.le_of_ble_eq_true rfl) rfl ?_
      refine T_goto (pc := 65) 5 dX0_settledBy_65 (by decide) ?_
      refine T_pick (lv' := [(0, .ref 6), (1, .int v1), (2, .int v2), (3, .int v3), (4, .int (v4 + (1 : Int32)))]) [0, 1, 2, 3, 4] rfl ?_
      exact hkb v3 (v4 + (1 : Int32))
    · refine T_aload_n (pc := 37) 0 dX0_settledBy_37 rfl rfl ?_
      refine T_iload (pc := 38) 5 dX0_settledBy_38 rfl ?_
      refine T_iload_n (pc := 40) 2 dX0_settledBy_40 rfl rfl ?_
      refine T_callPz (pc := 41) (rest := []) (Rn_V (pc := 41) (as := [.int x2, .int v2]) (rest := []) (ctX0_isLoose σ x2 v2) rfl rfl mv_X0_isLoose hw1104 rfl ⟨Nat.le_of_ble_eq_true rfl, Nat.le_of_ble_eq_true rfl⟩ (Nat.le_of_ble_eq_true rfl) dX0_settledBy_41 rfl) rfl (fun x4 => ?_)
      refine T_if_eq (pc := 44) 62 dX0_settledBy_44 (by decide) (fun _ => ?_) (fun _ => ?_)
      · refine T_iinc (pc := 62) (y := 1) (lv' := [(0, .ref 6), (1, .int v1), (2, .int v2), (3, .int v3), (4, .int (v4 + (1 : Int32))), (5, .int x2)]) 4 dX0_settledBy_62 (by decide) rfl (Nat.le_of_ble_eq_true rfl) rfl ?_
        refine T_goto (pc := 65) 5 dX0_settledBy_65 (by decide) ?_
        refine T_pick (lv' := [(0, .ref 6), (1, .int v1), (2, .int v2), (3, .int v3), (4, .int (v4 + (1 : Int32)))]) [0, 1, 2, 3, 4] rfl ?_
        exact hkb v3 (v4 + (1 : Int32))
      · refine T_aload_n (pc := 47) 0 dX0_settledBy_47 rfl rfl ?_
        refine T_iload (pc := 48) 5 dX0_settledBy_48 rfl ?_
        refine T_iconst (pc := 50) (v := 1) dX0_settledBy_50 (by decide) ?_
        refine T_iload_n (pc := 51) 1 dX0_settledBy_51 rfl rfl ?_
        refine T_ishl (pc := 52) dX0_settledBy_52 ?_
        refine T_callPi (pc := 53) (rest := []) (Rn_V (pc := 53) (as := [.int x2, .int ((1 : Int32) <<< (v1 &&& 31))]) (rest := []) (ctX0_metBy σ x2 ((1 : Int32) <<< (v1 &&& 31))) rfl rfl mv_X0_metBy hw879 rfl ⟨Nat.le_of_ble_eq_true rfl, Nat.le_of_ble_eq_true rfl⟩ (Nat.le_of_ble_eq_true rfl) dX0_settledBy_53 rfl) rfl (fun x5 => ?_)
        refine T_if_le (pc := 56) 62 dX0_settledBy_56 (by decide) (fun _ => ?_) (fun _ => ?_)
        · refine T_iinc (pc := 62) (y := 1) (lv' := [(0, .ref 6), (1, .int v1), (2, .int v2), (3, .int v3), (4, .int (v4 + (1 : Int32))), (5, .int x2)]) 4 dX0_settledBy_62 (by decide) rfl (Nat.le_of_ble_eq_true rfl) rfl ?_
          refine T_goto (pc := 65) 5 dX0_settledBy_65 (by decide) ?_
          refine T_pick (lv' := [(0, .ref 6), (1, .int v1), (2, .int v2), (3, .int v3), (4, .int (v4 + (1 : Int32)))]) [0, 1, 2, 3, 4] rfl ?_
          exact hkb v3 (v4 + (1 : Int32))
        · refine T_iinc (pc := 59) (y := 1) (lv' := [(0, .ref 6), (1, .int v1), (2, .int v2), (3, .int (v3 + (1 : Int32))), (4, .int v4), (5, .int x2)]) 3 dX0_settledBy_59 (by decide) rfl (Nat.le_of_ble_eq_true rfl) rfl ?_
          refine T_iinc (pc := 62) (y := 1) (lv' := [(0, .ref 6), (1, .int v1), (2, .int v2), (3, .int (v3 + (1 : Int32))), (4, .int (v4 + (1 : Int32))), (5, .int x2)]) 4 dX0_settledBy_62 (by decide) rfl (Nat.le_of_ble_eq_true rfl) rfl ?_
          refine T_goto (pc := 65) 5 dX0_settledBy_65 (by decide) ?_
          refine T_pick (lv' := [(0, .ref 6), (1, .int v1), (2, .int v2), (3, .int (v3 + (1 : Int32))), (4, .int (v4 + (1 : Int32)))]) [0, 1, 2, 3, 4] rfl ?_
          exact hkb (v3 + (1 : Int32)) (v4 + (1 : Int32))
set_option maxRecDepth 100000 in
set_option maxHeartbeats 4000000 in
theorem fX0_settledBy_P5_T (v1 : Int32) (v2 : Int32) (σ : St) (v3 : Int32) (v4 : Int32) : T kX0_settledBy (cPi σ) σ 5 [(0, .ref 6), (1, .int v1), (2, .int v2), (3, .int v3), (4, .int v4)] [] (fX0_settledBy_P5 v1 v2 σ v3 v4) :=
  it_T (S := (fun _ : Int32 × Int32 => σ)) (lv := fun t : Int32 × Int32 => [(0, .ref 6), (1, .int v1), (2, .int v2), (3, .int t.1), (4, .int t.2)]) (st := fun _ => []) (fun kb hkb t => fX0_settledBy_L5_T v1 v2 (hkb := fun v3 v4 => hkb (v3, v4)) σ t.1 t.2) FU (v3, v4)
set_option maxRecDepth 100000 in
set_option maxHeartbeats 4000000 in
theorem ctX0_settledBy (σ : St) (p0 : Int32) (p1 : Int32) : Ct yX0_settledBy kX0_settledBy [.ref 6, .int p0, .int p1] σ (cPi σ) (fX0_settledBy σ p0 p1) := by
  refine Ct.of (by decide +kernel) rfl rfl (Nat.le_of_ble_eq_true rfl) ?_
  unfold fX0_settledBy
  show T _ _ _ 0 [(0, .ref 6), (1, .int p0), (2, .int p1)] [] _
  refine T_iconst (pc := 0) (v := 0) dX0_settledBy_0 (by decide) ?_
  refine T_istore_n (pc := 1) (lv' := [(0, .ref 6), (1, .int p0), (2, .int p1), (3, .int (0 : Int32))]) dX0_settledBy_1 rfl (Nat.le_of_ble_eq_true rfl) rfl ?_
  refine T_iconst (pc := 2) (v := 0) dX0_settledBy_2 (by decide) ?_
  refine T_istore (pc := 3) (lv' := [(0, .ref 6), (1, .int p0), (2, .int p1), (3, .int (0 : Int32)), (4, .int (0 : Int32))]) dX0_settledBy_3 (Nat.le_of_ble_eq_true rfl) rfl ?_
  exact fX0_settledBy_P5_T p0 p1 σ (0 : Int32) (0 : Int32)
set_option maxRecDepth 100000 in
set_option maxHeartbeats 4000000 in
theorem fX0_settlesMost_L7_T (v1 : Int32) (σ : St) {kb : Int32 → Int32 → Int32 → Option Int32} (hkb : ∀ (w2 : Int32) (w3 : Int32) (w4 : Int32), T kX0_settlesMost (cPi σ) σ 7 [(0, .ref 6), (1, .int v1), (2, .int w2), (3, .int w3), (4, .int w4)] [] (kb w2 w3 w4)) (v2 : Int32) (v3 : Int32) (v4 : Int32) : T kX0_settlesMost (cPi σ) σ 7 [(0, .ref 6), (1, .int v1), (2, .int v2), (3, .int v3), (4, .int v4)] [] (fX0_settlesMost_L7 v1 kb σ v2 v3 v4) := by
  unfold fX0_settlesMost_L7
  refine T_iload (pc := 7) 4 dX0_settlesMost_7 rfl ?_
  refine T_aload_n (pc := 9) 0 dX0_settlesMost_9 rfl rfl ?_
  refine T_getA (pc := 10) fd_6_0 hw186 dX0_settlesMost_10 ?_
  refine T_callPi (pc := 13) (rest := [.int v4]) (Rn_V (pc := 13) (as := []) (rest := [.int v4]) (ctX7_number σ) rfl rfl mv_X7_number hw1082 rfl ⟨Nat.le_of_ble_eq_true rfl, Nat.le_of_ble_eq_true rfl⟩ (Nat.le_of_ble_eq_true rfl) dX0_settlesMost_13 rfl) rfl (fun x1 => ?_)
  refine T_icmp_ge (pc := 16) 60 dX0_settlesMost_16 (by decide) (fun _ => ?_) (fun _ => ?_)
  · refine T_iload_n (pc := 60) 2 dX0_settlesMost_60 rfl rfl ?_
    exact T_ireturn (pc := 61) rfl dX0_settlesMost_61 rfl
  · refine T_iload (pc := 19) 4 dX0_settlesMost_19 rfl ?_
    refine T_iload_n (pc := 21) 1 dX0_settlesMost_21 rfl rfl ?_
    refine T_callPz (pc := 22) (rest := []) (Rn_S (pc := 22) (as := [.int v4, .int v1]) (rest := []) (ctX7_isIn σ v4 v1) ms_X7_isIn hw1094 rfl ⟨Nat.le_of_ble_eq_true rfl, Nat.le_of_ble_eq_true rfl⟩ (Nat.le_of_ble_eq_true rfl) dX0_settlesMost_22 rfl) rfl (fun x2 => ?_)
    refine T_if_ne (pc := 25) 54 dX0_settlesMost_25 (by decide) (fun _ => ?_) (fun _ => ?_)
    · refine T_iinc (pc := 54) (y := 1) (lv' := [(0, .ref 6), (1, .int v1), (2, .int v2), (3, .int v3), (4, .int (v4 + (1 : Int32)))]) 4 dX0_settlesMost_54 (by decide) rfl (Nat.le_of_ble_eq_true rfl) rfl ?_
      refine T_goto (pc := 57) 7 dX0_settlesMost_57 (by decide) ?_
      exact hkb v2 v3 (v4 + (1 : Int32))
    · refine T_aload_n (pc := 28) 0 dX0_settlesMost_28 rfl rfl ?_
      refine T_iload (pc := 29) 4 dX0_settlesMost_29 rfl ?_
      refine T_iload_n (pc := 31) 1 dX0_settlesMost_31 rfl rfl ?_
      refine T_callPi (pc := 32) (rest := []) (Rn_V (pc := 32) (as := [.int v4, .int v1]) (rest := []) (ctX0_settledBy σ v4 v1) rfl rfl mv_X0_settledBy hw1117 rfl ⟨Nat.le_of_ble_eq_true rfl, Nat.le_of_ble_eq_true rfl⟩ (Nat.le_of_ble_eq_true rfl) dX0_settlesMost_32 rfl) rfl (fun x3 => ?_)
      refine T_istore (pc := 35) (lv' := [(0, .ref 6), (1, .int v1), (2, .int v2), (3, .int v3), (4, .int v4), (5, .int x3)]) dX0_settlesMost_35 (Nat.le_of_ble_eq_true rfl) rfl ?_
      refine T_iload_n (pc := 37) 2 dX0_settlesMost_37 rfl rfl ?_
      refine T_iconst (pc := 38) (v := -1) dX0_settlesMost_38 (by decide) ?_
      refine T_icmp_eq (pc := 39) 48 dX0_settlesMost_39 (by decide) (fun _ => ?_) (fun _ => ?_)
      · refine T_iload (pc := 48) 4 dX0_settlesMost_48 rfl ?_
        refine T_istore_n (pc := 50) (lv' := [(0, .ref 6), (1, .int v1), (2, .int v4), (3, .int v3), (4, .int v4), (5, .int x3)]) dX0_settlesMost_50 rfl (Nat.le_of_ble_eq_true rfl) rfl ?_
        refine T_iload (pc := 51) 5 dX0_settlesMost_51 rfl ?_
        refine T_istore_n (pc := 53) (lv' := [(0, .ref 6), (1, .int v1), (2, .int v4), (3, .int x3), (4, .int v4), (5, .int x3)]) dX0_settlesMost_53 rfl (Nat.le_of_ble_eq_true rfl) rfl ?_
        refine T_iinc (pc := 54) (y := 1) (lv' := [(0, .ref 6), (1, .int v1), (2, .int v4), (3, .int x3), (4, .int (v4 + (1 : Int32))), (5, .int x3)]) 4 dX0_settlesMost_54 (by decide) rfl (Nat.le_of_ble_eq_true rfl) rfl ?_
        refine T_goto (pc := 57) 7 dX0_settlesMost_57 (by decide) ?_
        refine T_pick (lv' := [(0, .ref 6), (1, .int v1), (2, .int v4), (3, .int x3), (4, .int (v4 + (1 : Int32)))]) [0, 1, 2, 3, 4] rfl ?_
        exact hkb v4 x3 (v4 + (1 : Int32))
      · refine T_iload (pc := 42) 5 dX0_settlesMost_42 rfl ?_
        refine T_iload_n (pc := 44) 3 dX0_settlesMost_44 rfl rfl ?_
        refine T_icmp_le (pc := 45) 54 dX0_settlesMost_45 (by decide) (fun _ => ?_) (fun _ => ?_)
        · refine T_iinc (pc := 54) (y := 1) (lv' := [(0, .ref 6), (1, .int v1), (2, .int v2), (3, .int v3), (4, .int (v4 + (1 : Int32))), (5, .int x3)]) 4 dX0_settlesMost_54 (by decide) rfl (Nat.le_of_ble_eq_true rfl) rfl ?_
          refine T_goto (pc := 57) 7 dX0_settlesMost_57 (by decide) ?_
          refine T_pick (lv' := [(0, .ref 6), (1, .int v1), (2, .int v2), (3, .int v3), (4, .int (v4 + (1 : Int32)))]) [0, 1, 2, 3, 4] rfl ?_
          exact hkb v2 v3 (v4 + (1 : Int32))
        · refine T_iload (pc := 48) 4 dX0_settlesMost_48 rfl ?_
          refine T_istore_n (pc := 50) (lv' := [(0, .ref 6), (1, .int v1), (2, .int v4), (3, .int v3), (4, .int v4), (5, .int x3)]) dX0_settlesMost_50 rfl (Nat.le_of_ble_eq_true rfl) rfl ?_
          refine T_iload (pc := 51) 5 dX0_settlesMost_51 rfl ?_
          refine T_istore_n (pc := 53) (lv' := [(0, .ref 6), (1, .int v1), (2, .int v4), (3, .int x3), (4, .int v4), (5, .int x3)]) dX0_settlesMost_53 rfl (Nat.le_of_ble_eq_true rfl) rfl ?_
          refine T_iinc (pc := 54) (y := 1) (lv' := [(0, .ref 6), (1, .int v1), (2, .int v4), (3, .int x3), (4, .int (v4 + (1 : Int32))), (5, .int x3)]) 4 dX0_settlesMost_54 (by decide) rfl (Nat.le_of_ble_eq_true rfl) rfl ?_
          refine T_goto (pc := 57) 7 dX0_settlesMost_57 (by decide) ?_
          refine T_pick (lv' := [(0, .ref 6), (1, .int v1), (2, .int v4), (3, .int x3), (4, .int (v4 + (1 : Int32)))]) [0, 1, 2, 3, 4] rfl ?_
          exact hkb v4 x3 (v4 + (1 : Int32))
set_option maxRecDepth 100000 in
set_option maxHeartbeats 4000000 in
theorem fX0_settlesMost_P7_T (v1 : Int32) (σ : St) (v2 : Int32) (v3 : Int32) (v4 : Int32) : T kX0_settlesMost (cPi σ) σ 7 [(0, .ref 6), (1, .int v1), (2, .int v2), (3, .int v3), (4, .int v4)] [] (fX0_settlesMost_P7 v1 σ v2 v3 v4) :=
  it_T (S := (fun _ : Int32 × Int32 × Int32 => σ)) (lv := fun t : Int32 × Int32 × Int32 => [(0, .ref 6), (1, .int v1), (2, .int t.1), (3, .int t.2.1), (4, .int t.2.2)]) (st := fun _ => []) (fun kb hkb t => fX0_settlesMost_L7_T v1 (hkb := fun v2 v3 v4 => hkb (v2, v3, v4)) σ t.1 t.2.1 t.2.2) FU (v2, v3, v4)
set_option maxRecDepth 100000 in
set_option maxHeartbeats 4000000 in
theorem ctX0_settlesMost (σ : St) (p0 : Int32) : Ct yX0_settlesMost kX0_settlesMost [.ref 6, .int p0] σ (cPi σ) (fX0_settlesMost σ p0) := by
  refine Ct.of (by decide +kernel) rfl rfl (Nat.le_of_ble_eq_true rfl) ?_
  unfold fX0_settlesMost
  show T _ _ _ 0 [(0, .ref 6), (1, .int p0)] [] _
  refine T_iconst (pc := 0) (v := -1) dX0_settlesMost_0 (by decide) ?_
  refine T_istore_n (pc := 1) (lv' := [(0, .ref 6), (1, .int p0), (2, .int (-1 : Int32))]) dX0_settlesMost_1 rfl (Nat.le_of_ble_eq_true rfl) rfl ?_
  refine T_iconst (pc := 2) (v := 0) dX0_settlesMost_2 (by decide) ?_
  refine T_istore_n (pc := 3) (lv' := [(0, .ref 6), (1, .int p0), (2, .int (-1 : Int32)), (3, .int (0 : Int32))]) dX0_settlesMost_3 rfl (Nat.le_of_ble_eq_true rfl) rfl ?_
  refine T_iconst (pc := 4) (v := 0) dX0_settlesMost_4 (by decide) ?_
  refine T_istore (pc := 5) (lv' := [(0, .ref 6), (1, .int p0), (2, .int (-1 : Int32)), (3, .int (0 : Int32)), (4, .int (0 : Int32))]) dX0_settlesMost_5 (Nat.le_of_ble_eq_true rfl) rfl ?_
  exact fX0_settlesMost_P7_T p0 σ (-1 : Int32) (0 : Int32) (0 : Int32)
set_option maxRecDepth 100000 in
set_option maxHeartbeats 4000000 in
theorem fX0_within_L16_T (v1 : Int32) (v2 : Int32) (σ : St) {kb : Int32 → Option Int32} (hkb : ∀ (w3 : Int32), T kX0_within (cPi σ) σ 16 [(0, .ref 6), (1, .int v1), (2, .int v2), (3, .int w3)] [] (kb w3)) (v3 : Int32) : T kX0_within (cPi σ) σ 16 [(0, .ref 6), (1, .int v1), (2, .int v2), (3, .int v3)] [] (fX0_within_L16 v1 v2 kb σ v3) := by
  unfold fX0_within_L16
  refine T_iload_n (pc := 16) 3 dX0_within_16 rfl rfl ?_
  refine T_aload_n (pc := 17) 0 dX0_within_17 rfl rfl ?_
  refine T_getA (pc := 18) fd_6_0 hw186 dX0_within_18 ?_
  refine T_iload_n (pc := 21) 2 dX0_within_21 rfl rfl ?_
  refine T_callPi (pc := 22) (rest := [.int v3]) (Rn_V (pc := 22) (as := [.int v2]) (rest := [.int v3]) (ctX7_wordsOf σ v2) rfl rfl mv_X7_wordsOf hw809 rfl ⟨Nat.le_of_ble_eq_true rfl, Nat.le_of_ble_eq_true rfl⟩ (Nat.le_of_ble_eq_true rfl) dX0_within_22 rfl) rfl (fun x2 => ?_)
  refine T_iconst (pc := 25) (v := 2) dX0_within_25 (by decide) ?_
  refine T_isub (pc := 26) dX0_within_26 ?_
  refine T_icmp_ge (pc := 27) 84 dX0_within_27 (by decide) (fun _ => ?_) (fun _ => ?_)
  · refine T_iconst (pc := 84) (v := -1) dX0_within_84 (by decide) ?_
    exact T_ireturn (pc := 85) rfl dX0_within_85 rfl
  · refine T_aload_n (pc := 30) 0 dX0_within_30 rfl rfl ?_
    refine T_getA (pc := 31) fd_6_0 hw186 dX0_within_31 ?_
    refine T_iload_n (pc := 34) 2 dX0_within_34 rfl rfl ?_
    refine T_iload_n (pc := 35) 3 dX0_within_35 rfl rfl ?_
    refine T_callPl (pc := 36) (rest := []) (Rn_V (pc := 36) (as := [.int v2, .int v3]) (rest := []) (ctX7_word σ v2 v3) rfl rfl mv_X7_word hw818 rfl ⟨Nat.le_of_ble_eq_true rfl, Nat.le_of_ble_eq_true rfl⟩ (Nat.le_of_ble_eq_true rfl) dX0_within_36 rfl) rfl (fun x3 => ?_)
    refine T_aload_n (pc := 39) 0 dX0_within_39 rfl rfl ?_
    refine T_getA (pc := 40) fd_6_0 hw186 dX0_within_40 ?_
    refine T_iload_n (pc := 43) 1 dX0_within_43 rfl rfl ?_
    refine T_iconst (pc := 44) (v := 0) dX0_within_44 (by decide) ?_
    refine T_callPl (pc := 45) (rest := [.long x3]) (Rn_V (pc := 45) (as := [.int v1, .int (0 : Int32)]) (rest := [.long x3]) (ctX7_cueWord σ v1 (0 : Int32)) rfl rfl mv_X7_cueWord hw813 rfl ⟨Nat.le_of_ble_eq_true rfl, Nat.le_of_ble_eq_true rfl⟩ (Nat.le_of_ble_eq_true rfl) dX0_within_45 rfl) rfl (fun x4 => ?_)
    refine T_lcmp (pc := 48) dX0_within_48 ?_
    refine T_if_ne (pc := 49) 78 dX0_within_49 (by decide) (fun _ => ?_) (fun _ => ?_)
    · refine T_iinc (pc := 78) (y := 1) (lv' := [(0, .ref 6), (1, .int v1), (2, .int v2), (3, .int (v3 + (1 : Int32)))]) 3 dX0_within_78 (by decide) rfl (Nat.le_of_ble_eq_true rfl) rfl ?_
      refine T_goto (pc := 81) 16 dX0_within_81 (by decide) ?_
      exact hkb (v3 + (1 : Int32))
    · refine T_aload_n (pc := 52) 0 dX0_within_52 rfl rfl ?_
      refine T_getA (pc := 53) fd_6_0 hw186 dX0_within_53 ?_
      refine T_iload_n (pc := 56) 2 dX0_within_56 rfl rfl ?_
      refine T_iload_n (pc := 57) 3 dX0_within_57 rfl rfl ?_
      refine T_iconst (pc := 58) (v := 1) dX0_within_58 (by decide) ?_
      refine T_iadd (pc := 59) dX0_within_59 ?_
      refine T_callPl (pc := 60) (rest := []) (Rn_V (pc := 60) (as := [.int v2, .int (v3 + (1 : Int32))]) (rest := []) (ctX7_word σ v2 (v3 + (1 : Int32))) rfl rfl mv_X7_word hw818 rfl ⟨Nat.le_of_ble_eq_true rfl, Nat.le_of_ble_eq_true rfl⟩ (Nat.le_of_ble_eq_true rfl) dX0_within_60 rfl) rfl (fun x5 => ?_)
      refine T_aload_n (pc := 63) 0 dX0_within_63 rfl rfl ?_
      refine T_getA (pc := 64) fd_6_0 hw186 dX0_within_64 ?_
      refine T_iload_n (pc := 67) 1 dX0_within_67 rfl rfl ?_
      refine T_iconst (pc := 68) (v := 1) dX0_within_68 (by decide) ?_
      refine T_callPl (pc := 69) (rest := [.long x5]) (Rn_V (pc := 69) (as := [.int v1, .int (1 : Int32)]) (rest := [.long x5]) (ctX7_cueWord σ v1 (1 : Int32)) rfl rfl mv_X7_cueWord hw813 rfl ⟨Nat.le_of_ble_eq_true rfl, Nat.le_of_ble_eq_true rfl⟩ (Nat.le_of_ble_eq_true rfl) dX0_within_69 rfl) rfl (fun x6 => ?_)
      refine T_lcmp (pc := 72) dX0_within_72 ?_
      refine T_if_ne (pc := 73) 78 dX0_within_73 (by decide) (fun _ => ?_) (fun _ => ?_)
      · refine T_iinc (pc := 78) (y := 1) (lv' := [(0, .ref 6), (1, .int v1), (2, .int v2), (3, .int (v3 + (1 : Int32)))]) 3 dX0_within_78 (by decide) rfl (Nat.le_of_ble_eq_true rfl) rfl ?_
        refine T_goto (pc := 81) 16 dX0_within_81 (by decide) ?_
        exact hkb (v3 + (1 : Int32))
      · refine T_iload_n (pc := 76) 3 dX0_within_76 rfl rfl ?_
        exact T_ireturn (pc := 77) rfl dX0_within_77 rfl
set_option maxRecDepth 100000 in
set_option maxHeartbeats 4000000 in
theorem fX0_within_P16_T (v1 : Int32) (v2 : Int32) (σ : St) (v3 : Int32) : T kX0_within (cPi σ) σ 16 [(0, .ref 6), (1, .int v1), (2, .int v2), (3, .int v3)] [] (fX0_within_P16 v1 v2 σ v3) :=
  it_T (S := (fun _ : Int32 => σ)) (lv := fun t : Int32 => [(0, .ref 6), (1, .int v1), (2, .int v2), (3, .int t)]) (st := fun _ => []) (fun kb hkb t => fX0_within_L16_T v1 v2 (hkb := fun v3 => hkb v3) σ t) FU v3
set_option maxRecDepth 100000 in
set_option maxHeartbeats 4000000 in
theorem ctX0_within (σ : St) (p0 : Int32) (p1 : Int32) : Ct yX0_within kX0_within [.ref 6, .int p0, .int p1] σ (cPi σ) (fX0_within σ p0 p1) := by
  refine Ct.of (by decide +kernel) rfl rfl (Nat.le_of_ble_eq_true rfl) ?_
  unfold fX0_within
  show T _ _ _ 0 [(0, .ref 6), (1, .int p0), (2, .int p1)] [] _
  refine T_aload_n (pc := 0) 0 dX0_within_0 rfl rfl ?_
  refine T_getA (pc := 1) fd_6_0 hw186 dX0_within_1 ?_
  refine T_iload_n (pc := 4) 1 dX0_within_4 rfl rfl ?_
  refine T_callPi (pc := 5) (rest := []) (Rn_V (pc := 5) (as := [.int p0]) (rest := []) (ctX7_cueWordsOf σ p0) rfl rfl mv_X7_cueWordsOf hw805 rfl ⟨Nat.le_of_ble_eq_true rfl, Nat.le_of_ble_eq_true rfl⟩ (Nat.le_of_ble_eq_true rfl) dX0_within_5 rfl) rfl (fun x1 => ?_)
  refine T_iconst (pc := 8) (v := 2) dX0_within_8 (by decide) ?_
  refine T_icmp_eq (pc := 9) 14 dX0_within_9 (by decide) (fun _ => ?_) (fun _ => ?_)
  · refine T_iconst (pc := 14) (v := 0) dX0_within_14 (by decide) ?_
    refine T_istore_n (pc := 15) (lv' := [(0, .ref 6), (1, .int p0), (2, .int p1), (3, .int (0 : Int32))]) dX0_within_15 rfl (Nat.le_of_ble_eq_true rfl) rfl ?_
    exact fX0_within_P16_T p0 p1 σ (0 : Int32)
  · refine T_iconst (pc := 12) (v := -1) dX0_within_12 (by decide) ?_
    exact T_ireturn (pc := 13) rfl dX0_within_13 rfl
set_option maxRecDepth 100000 in
set_option maxHeartbeats 4000000 in
theorem fX0_temptedIn_L5_T (v1 : Int32) (v2 : Int32) (σ : St) {kb : Int32 → Int32 → Option Int32} (hkb : ∀ (w3 : Int32) (w4 : Int32), T kX0_temptedIn (cPi σ) σ 5 [(0, .ref 6), (1, .int v1), (2, .int v2), (3, .int w3), (4, .int w4)] [] (kb w3 w4)) (v3 : Int32) (v4 : Int32) : T kX0_temptedIn (cPi σ) σ 5 [(0, .ref 6), (1, .int v1), (2, .int v2), (3, .int v3), (4, .int v4)] [] (fX0_temptedIn_L5 v1 v2 kb σ v3 v4) := by
  unfold fX0_temptedIn_L5
  refine T_iload (pc := 5) 4 dX0_temptedIn_5 rfl ?_
  refine T_aload_n (pc := 7) 0 dX0_temptedIn_7 rfl rfl ?_
  refine T_getA (pc := 8) fd_6_0 hw186 dX0_temptedIn_8 ?_
  refine T_callPi (pc := 11) (rest := [.int v4]) (Rn_V (pc := 11) (as := []) (rest := [.int v4]) (ctX7_speeches σ) rfl rfl mv_X7_speeches hw884 rfl ⟨Nat.le_of_ble_eq_true rfl, Nat.le_of_ble_eq_true rfl⟩ (Nat.le_of_ble_eq_true rfl) dX0_temptedIn_11 rfl) rfl (fun x1 => ?_)
  refine T_icmp_ge (pc := 14) 57 dX0_temptedIn_14 (by decide) (fun _ => ?_) (fun _ => ?_)
  · refine T_iload_n (pc := 57) 3 dX0_temptedIn_57 rfl rfl ?_
    exact T_ireturn (pc := 58) rfl dX0_temptedIn_58 rfl
  · refine T_aload_n (pc := 17) 0 dX0_temptedIn_17 rfl rfl ?_
    refine T_getA (pc := 18) fd_6_0 hw186 dX0_temptedIn_18 ?_
    refine T_iload (pc := 21) 4 dX0_temptedIn_21 rfl ?_
    refine T_callPi (pc := 23) (rest := []) (Rn_V (pc := 23) (as := [.int v4]) (rest := []) (ctX7_speechAt σ v4) rfl rfl mv_X7_speechAt hw888 rfl ⟨Nat.le_of_ble_eq_true rfl, Nat.le_of_ble_eq_true rfl⟩ (Nat.le_of_ble_eq_true rfl) dX0_temptedIn_23 rfl) rfl (fun x2 => ?_)
    refine T_istore (pc := 26) (lv' := [(0, .ref 6), (1, .int v1), (2, .int v2), (3, .int v3), (4, .int v4), (5, .int x2)]) dX0_temptedIn_26 (Nat.le_of_ble_eq_true rfl) rfl ?_
    refine T_iload (pc := 28) 5 dX0_temptedIn_28 rfl ?_
    refine T_iload_n (pc := 30) 2 dX0_temptedIn_30 rfl rfl ?_
    refine T_callPz (pc := 31) (rest := []) (Rn_S (pc := 31) (as := [.int x2, .int v2]) (rest := []) (ctX7_isOf σ x2 v2) ms_X7_isOf hw892 rfl ⟨Nat.le_of_ble_eq_true rfl, Nat.le_of_ble_eq_true rfl⟩ (Nat.le_of_ble_eq_true rfl) dX0_temptedIn_31 rfl) rfl (fun x3 => ?_)
    refine T_if_eq (pc := 34) 51 dX0_temptedIn_34 (by decide) (fun _ => ?_) (fun _ => ?_)
    · refine T_iinc (pc := 51) (y := 1) (lv' := [(0, .ref 6), (1, .int v1), (2, .int v2), (3, .int v3), (4, .int (v4 + (1 : Int32))), (5, .int x2)]) 4 dX0_temptedIn_51 (by decide) rfl (Nat.le_of_ble_eq_true rfl) rfl ?_
      refine T_goto (pc := 54) 5 dX0_temptedIn_54 (by decide) ?_
      refine T_pick (lv' := [(0, .ref 6), (1, .int v1), (2, .int v2), (3, .int v3), (4, .int (v4 + (1 : Int32)))]) [0, 1, 2, 3, 4] rfl ?_
      exact hkb v3 (v4 + (1 : Int32))
    · refine T_aload_n (pc := 37) 0 dX0_temptedIn_37 rfl rfl ?_
      refine T_iload_n (pc := 38) 1 dX0_temptedIn_38 rfl rfl ?_
      refine T_iload (pc := 39) 5 dX0_temptedIn_39 rfl ?_
      refine T_callPi (pc := 41) (rest := []) (Rn_V (pc := 41) (as := [.int v1, .int x2]) (rest := []) (ctX0_within σ v1 x2) rfl rfl mv_X0_within hw1209 rfl ⟨Nat.le_of_ble_eq_true rfl, Nat.le_of_ble_eq_true rfl⟩ (Nat.le_of_ble_eq_true rfl) dX0_temptedIn_41 rfl) rfl (fun x4 => ?_)
      refine T_iconst (pc := 44) (v := -1) dX0_temptedIn_44 (by decide) ?_
      refine T_icmp_eq (pc := 45) 51 dX0_temptedIn_45 (by decide) (fun _ => ?_) (fun _ => ?_)
      · refine T_iinc (pc := 51) (y := 1) (lv' := [(0, .ref 6), (1, .int v1), (2, .int v2), (3, .int v3), (4, .int (v4 + (1 : Int32))), (5, .int x2)]) 4 dX0_temptedIn_51 (by decide) rfl (Nat.le_of_ble_eq_true rfl) rfl ?_
        refine T_goto (pc := 54) 5 dX0_temptedIn_54 (by decide) ?_
        refine T_pick (lv' := [(0, .ref 6), (1, .int v1), (2, .int v2), (3, .int v3), (4, .int (v4 + (1 : Int32)))]) [0, 1, 2, 3, 4] rfl ?_
        exact hkb v3 (v4 + (1 : Int32))
      · refine T_iinc (pc := 48) (y := 1) (lv' := [(0, .ref 6), (1, .int v1), (2, .int v2), (3, .int (v3 + (1 : Int32))), (4, .int v4), (5, .int x2)]) 3 dX0_temptedIn_48 (by decide) rfl (Nat.le_of_ble_eq_true rfl) rfl ?_
        refine T_iinc (pc := 51) (y := 1) (lv' := [(0, .ref 6), (1, .int v1), (2, .int v2), (3, .int (v3 + (1 : Int32))), (4, .int (v4 + (1 : Int32))), (5, .int x2)]) 4 dX0_temptedIn_51 (by decide) rfl (Nat.le_of_ble_eq_true rfl) rfl ?_
        refine T_goto (pc := 54) 5 dX0_temptedIn_54 (by decide) ?_
        refine T_pick (lv' := [(0, .ref 6), (1, .int v1), (2, .int v2), (3, .int (v3 + (1 : Int32))), (4, .int (v4 + (1 : Int32)))]) [0, 1, 2, 3, 4] rfl ?_
        exact hkb (v3 + (1 : Int32)) (v4 + (1 : Int32))
set_option maxRecDepth 100000 in
set_option maxHeartbeats 4000000 in
theorem fX0_temptedIn_P5_T (v1 : Int32) (v2 : Int32) (σ : St) (v3 : Int32) (v4 : Int32) : T kX0_temptedIn (cPi σ) σ 5 [(0, .ref 6), (1, .int v1), (2, .int v2), (3, .int v3), (4, .int v4)] [] (fX0_temptedIn_P5 v1 v2 σ v3 v4) :=
  it_T (S := (fun _ : Int32 × Int32 => σ)) (lv := fun t : Int32 × Int32 => [(0, .ref 6), (1, .int v1), (2, .int v2), (3, .int t.1), (4, .int t.2)]) (st := fun _ => []) (fun kb hkb t => fX0_temptedIn_L5_T v1 v2 (hkb := fun v3 v4 => hkb (v3, v4)) σ t.1 t.2) FU (v3, v4)
set_option maxRecDepth 100000 in
set_option maxHeartbeats 4000000 in
theorem ctX0_temptedIn (σ : St) (p0 : Int32) (p1 : Int32) : Ct yX0_temptedIn kX0_temptedIn [.ref 6, .int p0, .int p1] σ (cPi σ) (fX0_temptedIn σ p0 p1) := by
  refine Ct.of (by decide +kernel) rfl rfl (Nat.le_of_ble_eq_true rfl) ?_
  unfold fX0_temptedIn
  show T _ _ _ 0 [(0, .ref 6), (1, .int p0), (2, .int p1)] [] _
  refine T_iconst (pc := 0) (v := 0) dX0_temptedIn_0 (by decide) ?_
  refine T_istore_n (pc := 1) (lv' := [(0, .ref 6), (1, .int p0), (2, .int p1), (3, .int (0 : Int32))]) dX0_temptedIn_1 rfl (Nat.le_of_ble_eq_true rfl) rfl ?_
  refine T_iconst (pc := 2) (v := 0) dX0_temptedIn_2 (by decide) ?_
  refine T_istore (pc := 3) (lv' := [(0, .ref 6), (1, .int p0), (2, .int p1), (3, .int (0 : Int32)), (4, .int (0 : Int32))]) dX0_temptedIn_3 (Nat.le_of_ble_eq_true rfl) rfl ?_
  exact fX0_temptedIn_P5_T p0 p1 σ (0 : Int32) (0 : Int32)
set_option maxRecDepth 100000 in
set_option maxHeartbeats 4000000 in
theorem fX0_temptations_L4_T (v1 : Int32) (σ : St) {kb : Int32 → Int32 → Option Int32} (hkb : ∀ (w2 : Int32) (w3 : Int32), T kX0_temptations (cPi σ) σ 4 [(0, .ref 6), (1, .int v1), (2, .int w2), (3, .int w3)] [] (kb w2 w3)) (v2 : Int32) (v3 : Int32) : T kX0_temptations (cPi σ) σ 4 [(0, .ref 6), (1, .int v1), (2, .int v2), (3, .int v3)] [] (fX0_temptations_L4 v1 kb σ v2 v3) := by
  unfold fX0_temptations_L4
  refine T_iload_n (pc := 4) 3 dX0_temptations_4 rfl rfl ?_
  refine T_aload_n (pc := 5) 0 dX0_temptations_5 rfl rfl ?_
  refine T_getA (pc := 6) fd_6_0 hw186 dX0_temptations_6 ?_
  refine T_callPi (pc := 9) (rest := [.int v3]) (Rn_V (pc := 9) (as := []) (rest := [.int v3]) (ctX7_speeches σ) rfl rfl mv_X7_speeches hw884 rfl ⟨Nat.le_of_ble_eq_true rfl, Nat.le_of_ble_eq_true rfl⟩ (Nat.le_of_ble_eq_true rfl) dX0_temptations_9 rfl) rfl (fun x1 => ?_)
  refine T_icmp_ge (pc := 12) 60 dX0_temptations_12 (by decide) (fun _ => ?_) (fun _ => ?_)
  · refine T_iload_n (pc := 60) 2 dX0_temptations_60 rfl rfl ?_
    exact T_ireturn (pc := 61) rfl dX0_temptations_61 rfl
  · refine T_aload_n (pc := 15) 0 dX0_temptations_15 rfl rfl ?_
    refine T_getA (pc := 16) fd_6_0 hw186 dX0_temptations_16 ?_
    refine T_iload_n (pc := 19) 3 dX0_temptations_19 rfl rfl ?_
    refine T_callPi (pc := 20) (rest := []) (Rn_V (pc := 20) (as := [.int v3]) (rest := []) (ctX7_speechAt σ v3) rfl rfl mv_X7_speechAt hw888 rfl ⟨Nat.le_of_ble_eq_true rfl, Nat.le_of_ble_eq_true rfl⟩ (Nat.le_of_ble_eq_true rfl) dX0_temptations_20 rfl) rfl (fun x2 => ?_)
    refine T_istore (pc := 23) (lv' := [(0, .ref 6), (1, .int v1), (2, .int v2), (3, .int v3), (4, .int x2)]) dX0_temptations_23 (Nat.le_of_ble_eq_true rfl) rfl ?_
    refine T_iload (pc := 25) 4 dX0_temptations_25 rfl ?_
    refine T_iload_n (pc := 27) 1 dX0_temptations_27 rfl rfl ?_
    refine T_callPz (pc := 28) (rest := []) (Rn_S (pc := 28) (as := [.int x2, .int v1]) (rest := []) (ctX7_isOf σ x2 v1) ms_X7_isOf hw892 rfl ⟨Nat.le_of_ble_eq_true rfl, Nat.le_of_ble_eq_true rfl⟩ (Nat.le_of_ble_eq_true rfl) dX0_temptations_28 rfl) rfl (fun x3 => ?_)
    refine T_if_eq (pc := 31) 54 dX0_temptations_31 (by decide) (fun _ => ?_) (fun _ => ?_)
    · refine T_iinc (pc := 54) (y := 1) (lv' := [(0, .ref 6), (1, .int v1), (2, .int v2), (3, .int (v3 + (1 : Int32))), (4, .int x2)]) 3 dX0_temptations_54 (by decide) rfl (Nat.le_of_ble_eq_true rfl) rfl ?_
      refine T_goto (pc := 57) 4 dX0_temptations_57 (by decide) ?_
      refine T_pick (lv' := [(0, .ref 6), (1, .int v1), (2, .int v2), (3, .int (v3 + (1 : Int32)))]) [0, 1, 2, 3] rfl ?_
      exact hkb v2 (v3 + (1 : Int32))
    · refine T_iload_n (pc := 34) 2 dX0_temptations_34 rfl rfl ?_
      refine T_aload_n (pc := 35) 0 dX0_temptations_35 rfl rfl ?_
      refine T_iload (pc := 36) 4 dX0_temptations_36 rfl ?_
      refine T_iload_n (pc := 38) 1 dX0_temptations_38 rfl rfl ?_
      refine T_iconst (pc := 39) (v := 1) dX0_temptations_39 (by decide) ?_
      refine T_iload (pc := 40) 4 dX0_temptations_40 rfl ?_
      refine T_callPi (pc := 42) (rest := [.int (1 : Int32), .int v1, .int x2, .ref 6, .int v2]) (Rn_S (pc := 42) (as := [.int x2]) (rest := [.int (1 : Int32), .int v1, .int x2, .ref 6, .int v2]) (ctX7_rollOf σ x2) ms_X7_rollOf hw883 rfl ⟨Nat.le_of_ble_eq_true rfl, Nat.le_of_ble_eq_true rfl⟩ (Nat.le_of_ble_eq_true rfl) dX0_temptations_42 rfl) rfl (fun x4 => ?_)
      refine T_ishl (pc := 45) dX0_temptations_45 ?_
      refine T_iconst (pc := 46) (v := -1) dX0_temptations_46 (by decide) ?_
      refine T_ixor (pc := 47) dX0_temptations_47 ?_
      refine T_iand (pc := 48) dX0_temptations_48 ?_
      refine T_callPi (pc := 49) (rest := [.int v2]) (Rn_V (pc := 49) (as := [.int x2, .int (v1 &&& (((1 : Int32) <<< (x4 &&& 31)) ^^^ (-1 : Int32)))]) (rest := [.int v2]) (ctX0_temptedIn σ x2 (v1 &&& (((1 : Int32) <<< (x4 &&& 31)) ^^^ (-1 : Int32)))) rfl rfl mv_X0_temptedIn hw1205 rfl ⟨Nat.le_of_ble_eq_true rfl, Nat.le_of_ble_eq_true rfl⟩ (Nat.le_of_ble_eq_true rfl) dX0_temptations_49 rfl) rfl (fun x5 => ?_)
      refine T_iadd (pc := 52) dX0_temptations_52 ?_
      refine T_letI (fun x6 => ?_)
      refine T_istore_n (pc := 53) (lv' := [(0, .ref 6), (1, .int v1), (2, .int x6), (3, .int v3), (4, .int x2)]) dX0_temptations_53 rfl (Nat.le_of_ble_eq_true rfl) rfl ?_
      refine T_iinc (pc := 54) (y := 1) (lv' := [(0, .ref 6), (1, .int v1), (2, .int x6), (3, .int (v3 + (1 : Int32))), (4, .int x2)]) 3 dX0_temptations_54 (by decide) rfl (Nat.le_of_ble_eq_true rfl) rfl ?_
      refine T_goto (pc := 57) 4 dX0_temptations_57 (by decide) ?_
      refine T_pick (lv' := [(0, .ref 6), (1, .int v1), (2, .int x6), (3, .int (v3 + (1 : Int32)))]) [0, 1, 2, 3] rfl ?_
      exact hkb x6 (v3 + (1 : Int32))
set_option maxRecDepth 100000 in
set_option maxHeartbeats 4000000 in
theorem fX0_temptations_P4_T (v1 : Int32) (σ : St) (v2 : Int32) (v3 : Int32) : T kX0_temptations (cPi σ) σ 4 [(0, .ref 6), (1, .int v1), (2, .int v2), (3, .int v3)] [] (fX0_temptations_P4 v1 σ v2 v3) :=
  it_T (S := (fun _ : Int32 × Int32 => σ)) (lv := fun t : Int32 × Int32 => [(0, .ref 6), (1, .int v1), (2, .int t.1), (3, .int t.2)]) (st := fun _ => []) (fun kb hkb t => fX0_temptations_L4_T v1 (hkb := fun v2 v3 => hkb (v2, v3)) σ t.1 t.2) FU (v2, v3)
set_option maxRecDepth 100000 in
set_option maxHeartbeats 4000000 in
theorem ctX0_temptations (σ : St) (p0 : Int32) : Ct yX0_temptations kX0_temptations [.ref 6, .int p0] σ (cPi σ) (fX0_temptations σ p0) := by
  refine Ct.of (by decide +kernel) rfl rfl (Nat.le_of_ble_eq_true rfl) ?_
  unfold fX0_temptations
  show T _ _ _ 0 [(0, .ref 6), (1, .int p0)] [] _
  refine T_iconst (pc := 0) (v := 0) dX0_temptations_0 (by decide) ?_
  refine T_istore_n (pc := 1) (lv' := [(0, .ref 6), (1, .int p0), (2, .int (0 : Int32))]) dX0_temptations_1 rfl (Nat.le_of_ble_eq_true rfl) rfl ?_
  refine T_iconst (pc := 2) (v := 0) dX0_temptations_2 (by decide) ?_
  refine T_istore_n (pc := 3) (lv' := [(0, .ref 6), (1, .int p0), (2, .int (0 : Int32)), (3, .int (0 : Int32))]) dX0_temptations_3 rfl (Nat.le_of_ble_eq_true rfl) rfl ?_
  exact fX0_temptations_P4_T p0 σ (0 : Int32) (0 : Int32)
set_option maxRecDepth 100000 in
set_option maxHeartbeats 4000000 in
theorem fX0_wasLost_L2_T (v1 : Int32) (σ : St) {kb : Int32 → Option Bool} (hkb : ∀ (w2 : Int32), T kX0_wasLost (cPz σ) σ 2 [(0, .ref 6), (1, .int v1), (2, .int w2)] [] (kb w2)) (v2 : Int32) : T kX0_wasLost (cPz σ) σ 2 [(0, .ref 6), (1, .int v1), (2, .int v2)] [] (fX0_wasLost_L2 v1 kb σ v2) := by
  unfold fX0_wasLost_L2
  refine T_iload_n (pc := 2) 2 dX0_wasLost_2 rfl rfl ?_
  refine T_iload_n (pc := 3) 1 dX0_wasLost_3 rfl rfl ?_
  refine T_icmp_ge (pc := 4) 56 dX0_wasLost_4 (by decide) (fun _ => ?_) (fun _ => ?_)
  · refine T_iconst (pc := 56) (v := 0) dX0_wasLost_56 (by decide) ?_
    exact T_zreturn (pc := 57) false rfl dX0_wasLost_57 rfl rfl
  · refine T_iload_n (pc := 7) 2 dX0_wasLost_7 rfl rfl ?_
    refine T_aload_n (pc := 8) 0 dX0_wasLost_8 rfl rfl ?_
    refine T_getA (pc := 9) fd_6_4 hw190 dX0_wasLost_9 ?_
    refine T_alenZ (pc := 12) (v := 96) rfl (by decide) dX0_wasLost_12 ?_
    refine T_icmp_ge (pc := 13) 56 dX0_wasLost_13 (by decide) (fun _ => ?_) (fun _ => ?_)
    · refine T_iconst (pc := 56) (v := 0) dX0_wasLost_56 (by decide) ?_
      exact T_zreturn (pc := 57) false rfl dX0_wasLost_57 rfl rfl
    · refine T_aload_n (pc := 16) 0 dX0_wasLost_16 rfl rfl ?_
      refine T_getA (pc := 17) fd_6_4 hw190 dX0_wasLost_17 ?_
      refine T_iload_n (pc := 20) 2 dX0_wasLost_20 rfl rfl ?_
      refine T_zald (pc := 21) rfl dX0_wasLost_21 (fun x1 => ?_)
      refine T_if_eq (pc := 22) 50 dX0_wasLost_22 (by decide) (fun _ => ?_) (fun _ => ?_)
      · refine T_iinc (pc := 50) (y := 1) (lv' := [(0, .ref 6), (1, .int v1), (2, .int (v2 + (1 : Int32)))]) 2 dX0_wasLost_50 (by decide) rfl (Nat.le_of_ble_eq_true rfl) rfl ?_
        refine T_goto (pc := 53) 2 dX0_wasLost_53 (by decide) ?_
        exact hkb (v2 + (1 : Int32))
      · refine T_aload_n (pc := 25) 0 dX0_wasLost_25 rfl rfl ?_
        refine T_aload_n (pc := 26) 0 dX0_wasLost_26 rfl rfl ?_
        refine T_getA (pc := 27) fd_6_0 hw186 dX0_wasLost_27 ?_
        refine T_iload_n (pc := 30) 2 dX0_wasLost_30 rfl rfl ?_
        refine T_callPi (pc := 31) (rest := [.ref 6]) (Rn_V (pc := 31) (as := [.int v2]) (rest := [.ref 6]) (ctX7_speechAt σ v2) rfl rfl mv_X7_speechAt hw888 rfl ⟨Nat.le_of_ble_eq_true rfl, Nat.le_of_ble_eq_true rfl⟩ (Nat.le_of_ble_eq_true rfl) dX0_wasLost_31 rfl) rfl (fun x2 => ?_)
        refine T_aload_n (pc := 34) 0 dX0_wasLost_34 rfl rfl ?_
        refine T_getA (pc := 35) fd_6_0 hw186 dX0_wasLost_35 ?_
        refine T_iload_n (pc := 38) 1 dX0_wasLost_38 rfl rfl ?_
        refine T_callPi (pc := 39) (rest := [.int x2, .ref 6]) (Rn_V (pc := 39) (as := [.int v1]) (rest := [.int x2, .ref 6]) (ctX7_speechAt σ v1) rfl rfl mv_X7_speechAt hw888 rfl ⟨Nat.le_of_ble_eq_true rfl, Nat.le_of_ble_eq_true rfl⟩ (Nat.le_of_ble_eq_true rfl) dX0_wasLost_39 rfl) rfl (fun x3 => ?_)
        refine T_callPz (pc := 42) (rest := []) (Rn_V (pc := 42) (as := [.int x2, .int x3]) (rest := []) (ctX0_alike σ x2 x3) rfl rfl mv_X0_alike hw1070 rfl ⟨Nat.le_of_ble_eq_true rfl, Nat.le_of_ble_eq_true rfl⟩ (Nat.le_of_ble_eq_true rfl) dX0_wasLost_42 rfl) rfl (fun x4 => ?_)
        refine T_if_eq (pc := 45) 50 dX0_wasLost_45 (by decide) (fun _ => ?_) (fun _ => ?_)
        · refine T_iinc (pc := 50) (y := 1) (lv' := [(0, .ref 6), (1, .int v1), (2, .int (v2 + (1 : Int32)))]) 2 dX0_wasLost_50 (by decide) rfl (Nat.le_of_ble_eq_true rfl) rfl ?_
          refine T_goto (pc := 53) 2 dX0_wasLost_53 (by decide) ?_
          exact hkb (v2 + (1 : Int32))
        · refine T_iconst (pc := 48) (v := 1) dX0_wasLost_48 (by decide) ?_
          exact T_zreturn (pc := 49) true rfl dX0_wasLost_49 rfl rfl
set_option maxRecDepth 100000 in
set_option maxHeartbeats 4000000 in
theorem fX0_wasLost_P2_T (v1 : Int32) (σ : St) (v2 : Int32) : T kX0_wasLost (cPz σ) σ 2 [(0, .ref 6), (1, .int v1), (2, .int v2)] [] (fX0_wasLost_P2 v1 σ v2) :=
  it_T (S := (fun _ : Int32 => σ)) (lv := fun t : Int32 => [(0, .ref 6), (1, .int v1), (2, .int t)]) (st := fun _ => []) (fun kb hkb t => fX0_wasLost_L2_T v1 (hkb := fun v2 => hkb v2) σ t) FU v2
set_option maxRecDepth 100000 in
set_option maxHeartbeats 4000000 in
theorem ctX0_wasLost (σ : St) (p0 : Int32) : Ct yX0_wasLost kX0_wasLost [.ref 6, .int p0] σ (cPz σ) (fX0_wasLost σ p0) := by
  refine Ct.of (by decide +kernel) rfl rfl (Nat.le_of_ble_eq_true rfl) ?_
  unfold fX0_wasLost
  show T _ _ _ 0 [(0, .ref 6), (1, .int p0)] [] _
  refine T_iconst (pc := 0) (v := 0) dX0_wasLost_0 (by decide) ?_
  refine T_istore_n (pc := 1) (lv' := [(0, .ref 6), (1, .int p0), (2, .int (0 : Int32))]) dX0_wasLost_1 rfl (Nat.le_of_ble_eq_true rfl) rfl ?_
  exact fX0_wasLost_P2_T p0 σ (0 : Int32)
set_option maxRecDepth 100000 in
set_option maxHeartbeats 4000000 in
theorem fX0_wordsAtLeast_J68_T (σ : St) (v1 : Int32) (v2 : Int32) (v3 : Int32) (v4 : Int32) (v5 : Int32) (t0 : Int32) (t1 : Int32) {kb : St → Int32 → Int32 → Option (Int32 × St)} (hkb : ∀ (σ' : St) (w2 : Int32) (w3 : Int32), T kX0_wordsAtLeast cSi σ' 4 [(0, .ref 6), (1, .int v1), (2, .int w2), (3, .int w3)] [] (kb σ' w2 w3)) : T kX0_wordsAtLeast cSi σ 68 [(0, .ref 6), (1, .int v1), (2, .int v2), (3, .int v3), (4, .int v4), (5, .int v5)] [.int t0, .int t1, .ref 33] (fX0_wordsAtLeast_J68 kb σ v1 v2 v3 v4 v5 t0 t1) := by
  unfold fX0_wordsAtLeast_J68
  refine T_zast (pc := 68) rfl dX0_wordsAtLeast_68 ?_
  refine T_letS (fun s4 => ?_)
  refine T_iload (pc := 69) 5 dX0_wordsAtLeast_69 rfl ?_
  refine T_if_eq (pc := 71) 86 dX0_wordsAtLeast_71 (by decide) (fun _ => ?_) (fun _ => ?_)
  · refine T_aload_n (pc := 86) 0 dX0_wordsAtLeast_86 rfl rfl ?_
    refine T_getA (pc := 87) fd_6_4 hw190 dX0_wordsAtLeast_87 ?_
    refine T_iload_n (pc := 90) 3 dX0_wordsAtLeast_90 rfl rfl ?_
    refine T_zald (pc := 91) rfl dX0_wordsAtLeast_91 (fun x5 => ?_)
    refine T_if_eq (pc := 92) 115 dX0_wordsAtLeast_92 (by decide) (fun _ => ?_) (fun _ => ?_)
    · refine T_iinc (pc := 115) (y := 1) (lv' := [(0, .ref 6), (1, .int v1), (2, .int v2), (3, .int (v3 + (1 : Int32))), (4, .int v4), (5, .int v5)]) 3 dX0_wordsAtLeast_115 (by decide) rfl (Nat.le_of_ble_eq_true rfl) rfl ?_
      refine T_goto (pc := 118) 4 dX0_wordsAtLeast_118 (by decide) ?_
      refine T_pick (lv' := [(0, .ref 6), (1, .int v1), (2, .int v2), (3, .int (v3 + (1 : Int32)))]) [0, 1, 2, 3] rfl ?_
      exact hkb s4 v2 (v3 + (1 : Int32))
    · refine T_aload_n (pc := 95) 0 dX0_wordsAtLeast_95 rfl rfl ?_
      refine T_iload_n (pc := 96) 3 dX0_wordsAtLeast_96 rfl rfl ?_
      refine T_callPz (pc := 97) (rest := []) (Rn_V (pc := 97) (as := [.int v3]) (rest := []) (ctX0_wasLost s4 v3) rfl rfl mv_X0_wasLost hw1066 rfl ⟨Nat.le_of_ble_eq_true rfl, Nat.le_of_ble_eq_true rfl⟩ (Nat.le_of_ble_eq_true rfl) dX0_wordsAtLeast_97 rfl) rfl (fun x6 => ?_)
      refine T_if_ne (pc := 100) 115 dX0_wordsAtLeast_100 (by decide) (fun _ => ?_) (fun _ => ?_)
      · refine T_iinc (pc := 115) (y := 1) (lv' := [(0, .ref 6), (1, .int v1), (2, .int v2), (3, .int (v3 + (1 : Int32))), (4, .int v4), (5, .int v5)]) 3 dX0_wordsAtLeast_115 (by decide) rfl (Nat.le_of_ble_eq_true rfl) rfl ?_
        refine T_goto (pc := 118) 4 dX0_wordsAtLeast_118 (by decide) ?_
        refine T_pick (lv' := [(0, .ref 6), (1, .int v1), (2, .int v2), (3, .int (v3 + (1 : Int32)))]) [0, 1, 2, 3] rfl ?_
        exact hkb s4 v2 (v3 + (1 : Int32))
      · refine T_iload_n (pc := 103) 2 dX0_wordsAtLeast_103 rfl rfl ?_
        refine T_aload_n (pc := 104) 0 dX0_wordsAtLeast_104 rfl rfl ?_
        refine T_getA (pc := 105) fd_6_0 hw186 dX0_wordsAtLeast_105 ?_
        refine T_iload (pc := 108) 4 dX0_wordsAtLeast_108 rfl ?_
        refine T_callPi (pc := 110) (rest := [.int v2]) (Rn_V (pc := 110) (as := [.int v4]) (rest := [.int v2]) (ctX7_cueWordsOf s4 v4) rfl rfl mv_X7_cueWordsOf hw805 rfl ⟨Nat.le_of_ble_eq_true rfl, Nat.le_of_ble_eq_true rfl⟩ (Nat.le_of_ble_eq_true rfl) dX0_wordsAtLeast_110 rfl) rfl (fun x7 => ?_)
        refine T_iadd (pc := 113) dX0_wordsAtLeast_113 ?_
        refine T_letI (fun x8 => ?_)
        refine T_istore_n (pc := 114) (lv' := [(0, .ref 6), (1, .int v1), (2, .int x8), (3, .int v3), (4, .int v4), (5, .int v5)]) dX0_wordsAtLeast_114 rfl (Nat.le_of_ble_eq_true rfl) rfl ?_
        refine T_iinc (pc := 115) (y := 1) (lv' := [(0, .ref 6), (1, .int v1), (2, .int x8), (3, .int (v3 + (1 : Int32))), (4, .int v4), (5, .int v5)]) 3 dX0_wordsAtLeast_115 (by decide) rfl (Nat.le_of_ble_eq_true rfl) rfl ?_
        refine T_goto (pc := 118) 4 dX0_wordsAtLeast_118 (by decide) ?_
        refine T_pick (lv' := [(0, .ref 6), (1, .int v1), (2, .int x8), (3, .int (v3 + (1 : Int32)))]) [0, 1, 2, 3] rfl ?_
        exact hkb s4 x8 (v3 + (1 : Int32))
  · refine T_iload_n (pc := 74) 2 dX0_wordsAtLeast_74 rfl rfl ?_
    refine T_aload_n (pc := 75) 0 dX0_wordsAtLeast_75 rfl rfl ?_
    refine T_getA (pc := 76) fd_6_0 hw186 dX0_wordsAtLeast_76 ?_
    refine T_iload (pc := 79) 4 dX0_wordsAtLeast_79 rfl ?_
    refine T_callPi (pc := 81) (rest := [.int v2]) (Rn_V (pc := 81) (as := [.int v4]) (rest := [.int v2]) (ctX7_wordsOf s4 v4) rfl rfl mv_X7_wordsOf hw809 rfl ⟨Nat.le_of_ble_eq_true rfl, Nat.le_of_ble_eq_true rfl⟩ (Nat.le_of_ble_eq_true rfl) dX0_wordsAtLeast_81 rfl) rfl (fun x9 => ?_)
    refine T_iadd (pc := 84) dX0_wordsAtLeast_84 ?_
    refine T_letI (fun x10 => ?_)
    refine T_istore_n (pc := 85) (lv' := [(0, .ref 6), (1, .int v1), (2, .int x10), (3, .int v3), (4, .int v4), (5, .int v5)]) dX0_wordsAtLeast_85 rfl (Nat.le_of_ble_eq_true rfl) rfl ?_
    refine T_aload_n (pc := 86) 0 dX0_wordsAtLeast_86 rfl rfl ?_
    refine T_getA (pc := 87) fd_6_4 hw190 dX0_wordsAtLeast_87 ?_
    refine T_iload_n (pc := 90) 3 dX0_wordsAtLeast_90 rfl rfl ?_
    refine T_zald (pc := 91) rfl dX0_wordsAtLeast_91 (fun x11 => ?_)
    refine T_if_eq (pc := 92) 115 dX0_wordsAtLeast_92 (by decide) (fun _ => ?_) (fun _ => ?_)
    · refine T_iinc (pc := 115) (y := 1) (lv' := [(0, .ref 6), (1, .int v1), (2, .int x10), (3, .int (v3 + (1 : Int32))), (4, .int v4), (5, .int v5)]) 3 dX0_wordsAtLeast_115 (by decide) rfl (Nat.le_of_ble_eq_true rfl) rfl ?_
      refine T_goto (pc := 118) 4 dX0_wordsAtLeast_118 (by decide) ?_
      refine T_pick (lv' := [(0, .ref 6), (1, .int v1), (2, .int x10), (3, .int (v3 + (1 : Int32)))]) [0, 1, 2, 3] rfl ?_
      exact hkb s4 x10 (v3 + (1 : Int32))
    · refine T_aload_n (pc := 95) 0 dX0_wordsAtLeast_95 rfl rfl ?_
      refine T_iload_n (pc := 96) 3 dX0_wordsAtLeast_96 rfl rfl ?_
      refine T_callPz (pc := 97) (rest := []) (Rn_V (pc := 97) (as := [.int v3]) (rest := []) (ctX0_wasLost s4 v3) rfl rfl mv_X0_wasLost hw1066 rfl ⟨Nat.le_of_ble_eq_true rfl, Nat.le_of_ble_eq_true rfl⟩ (Nat.le_of_ble_eq_true rfl) dX0_wordsAtLeast_97 rfl) rfl (fun x12 => ?_)
      refine T_if_ne (pc := 100) 115 dX0_wordsAtLeast_100 (by decide) (fun _ => ?_) (fun _ => ?_)
      · refine T_iinc (pc := 115) (y := 1) (lv' := [(0, .ref 6), (1, .int v1), (2, .int x10), (3, .int (v3 + (1 : Int32))), (4, .int v4), (5, .int v5)]) 3 dX0_wordsAtLeast_115 (by decide) rfl (Nat.le_of_ble_eq_true rfl) rfl ?_
        refine T_goto (pc := 118) 4 dX0_wordsAtLeast_118 (by decide) ?_
        refine T_pick (lv' := [(0, .ref 6), (1, .int v1), (2, .int x10), (3, .int (v3 + (1 : Int32)))]) [0, 1, 2, 3] rfl ?_
        exact hkb s4 x10 (v3 + (1 : Int32))
      · refine T_iload_n (pc := 103) 2 dX0_wordsAtLeast_103 rfl rfl ?_
        refine T_aload_n (pc := 104) 0 dX0_wordsAtLeast_104 rfl rfl ?_
        refine T_getA (pc := 105) fd_6_0 hw186 dX0_wordsAtLeast_105 ?_
        refine T_iload (pc := 108) 4 dX0_wordsAtLeast_108 rfl ?_
        refine T_callPi (pc := 110) (rest := [.int x10]) (Rn_V (pc := 110) (as := [.int v4]) (rest := [.int x10]) (ctX7_cueWordsOf s4 v4) rfl rfl mv_X7_cueWordsOf hw805 rfl ⟨Nat.le_of_ble_eq_true rfl, Nat.le_of_ble_eq_true rfl⟩ (Nat.le_of_ble_eq_true rfl) dX0_wordsAtLeast_110 rfl) rfl (fun x13 => ?_)
        refine T_iadd (pc := 113) dX0_wordsAtLeast_113 ?_
        refine T_letI (fun x14 => ?_)
        refine T_istore_n (pc := 114) (lv' := [(0, .ref 6), (1, .int v1), (2, .int x14), (3, .int v3), (4, .int v4), (5, .int v5)]) dX0_wordsAtLeast_114 rfl (Nat.le_of_ble_eq_true rfl) rfl ?_
        refine T_iinc (pc := 115) (y := 1) (lv' := [(0, .ref 6), (1, .int v1), (2, .int x14), (3, .int (v3 + (1 : Int32))), (4, .int v4), (5, .int v5)]) 3 dX0_wordsAtLeast_115 (by decide) rfl (Nat.le_of_ble_eq_true rfl) rfl ?_
        refine T_goto (pc := 118) 4 dX0_wordsAtLeast_118 (by decide) ?_
        refine T_pick (lv' := [(0, .ref 6), (1, .int v1), (2, .int x14), (3, .int (v3 + (1 : Int32)))]) [0, 1, 2, 3] rfl ?_
        exact hkb s4 x14 (v3 + (1 : Int32))
set_option maxRecDepth 100000 in
set_option maxHeartbeats 4000000 in
theorem fX0_wordsAtLeast_L4_T (v1 : Int32) (σ : St) {kb : St → Int32 → Int32 → Option (Int32 × St)} (hkb : ∀ (σ' : St) (w2 : Int32) (w3 : Int32), T kX0_wordsAtLeast cSi σ' 4 [(0, .ref 6), (1, .int v1), (2, .int w2), (3, .int w3)] [] (kb σ' w2 w3)) (v2 : Int32) (v3 : Int32) : T kX0_wordsAtLeast cSi σ 4 [(0, .ref 6), (1, .int v1), (2, .int v2), (3, .int v3)] [] (fX0_wordsAtLeast_L4 v1 kb σ v2 v3) := by
  unfold fX0_wordsAtLeast_L4
  refine T_iload_n (pc := 4) 3 dX0_wordsAtLeast_4 rfl rfl ?_
  refine T_aload_n (pc := 5) 0 dX0_wordsAtLeast_5 rfl rfl ?_
  refine T_getA (pc := 6) fd_6_0 hw186 dX0_wordsAtLeast_6 ?_
  refine T_callPi (pc := 9) (rest := [.int v3]) (Rn_V (pc := 9) (as := []) (rest := [.int v3]) (ctX7_speeches σ) rfl rfl mv_X7_speeches hw884 rfl ⟨Nat.le_of_ble_eq_true rfl, Nat.le_of_ble_eq_true rfl⟩ (Nat.le_of_ble_eq_true rfl) dX0_wordsAtLeast_9 rfl) rfl (fun x1 => ?_)
  refine T_icmp_ge (pc := 12) 121 dX0_wordsAtLeast_12 (by decide) (fun _ => ?_) (fun _ => ?_)
  · refine T_iload_n (pc := 121) 2 dX0_wordsAtLeast_121 rfl rfl ?_
    exact T_ireturn (pc := 122) rfl dX0_wordsAtLeast_122 rfl
  · refine T_iload_n (pc := 15) 3 dX0_wordsAtLeast_15 rfl rfl ?_
    refine T_aload_n (pc := 16) 0 dX0_wordsAtLeast_16 rfl rfl ?_
    refine T_getA (pc := 17) fd_6_4 hw190 dX0_wordsAtLeast_17 ?_
    refine T_alenZ (pc := 20) (v := 96) rfl (by decide) dX0_wordsAtLeast_20 ?_
    refine T_icmp_ge (pc := 21) 121 dX0_wordsAtLeast_21 (by decide) (fun _ => ?_) (fun _ => ?_)
    · refine T_iload_n (pc := 121) 2 dX0_wordsAtLeast_121 rfl rfl ?_
      exact T_ireturn (pc := 122) rfl dX0_wordsAtLeast_122 rfl
    · refine T_aload_n (pc := 24) 0 dX0_wordsAtLeast_24 rfl rfl ?_
      refine T_getA (pc := 25) fd_6_0 hw186 dX0_wordsAtLeast_25 ?_
      refine T_iload_n (pc := 28) 3 dX0_wordsAtLeast_28 rfl rfl ?_
      refine T_callPi (pc := 29) (rest := []) (Rn_V (pc := 29) (as := [.int v3]) (rest := []) (ctX7_speechAt σ v3) rfl rfl mv_X7_speechAt hw888 rfl ⟨Nat.le_of_ble_eq_true rfl, Nat.le_of_ble_eq_true rfl⟩ (Nat.le_of_ble_eq_true rfl) dX0_wordsAtLeast_29 rfl) rfl (fun x2 => ?_)
      refine T_istore (pc := 32) (lv' := [(0, .ref 6), (1, .int v1), (2, .int v2), (3, .int v3), (4, .int x2)]) dX0_wordsAtLeast_32 (Nat.le_of_ble_eq_true rfl) rfl ?_
      refine T_iload (pc := 34) 4 dX0_wordsAtLeast_34 rfl ?_
      refine T_iload_n (pc := 36) 1 dX0_wordsAtLeast_36 rfl rfl ?_
      refine T_callPz (pc := 37) (rest := []) (Rn_S (pc := 37) (as := [.int x2, .int v1]) (rest := []) (ctX7_isOf σ x2 v1) ms_X7_isOf hw892 rfl ⟨Nat.le_of_ble_eq_true rfl, Nat.le_of_ble_eq_true rfl⟩ (Nat.le_of_ble_eq_true rfl) dX0_wordsAtLeast_37 rfl) rfl (fun x3 => ?_)
      refine T_istore (pc := 40) (lv' := [(0, .ref 6), (1, .int v1), (2, .int v2), (3, .int v3), (4, .int x2), (5, .int (bi x3))]) dX0_wordsAtLeast_40 (Nat.le_of_ble_eq_true rfl) rfl ?_
      refine T_aload_n (pc := 42) 0 dX0_wordsAtLeast_42 rfl rfl ?_
      refine T_getA (pc := 43) fd_6_4 hw190 dX0_wordsAtLeast_43 ?_
      refine T_iload_n (pc := 46) 3 dX0_wordsAtLeast_46 rfl rfl ?_
      refine T_iload (pc := 47) 5 dX0_wordsAtLeast_47 rfl ?_
      refine T_if_eq (pc := 49) 67 dX0_wordsAtLeast_49 (by decide) (fun _ => ?_) (fun _ => ?_)
      · refine T_iconst (pc := 67) (v := 0) dX0_wordsAtLeast_67 (by decide) ?_
        exact fX0_wordsAtLeast_J68_T (hkb := hkb) σ v1 v2 v3 x2 (bi x3) (0 : Int32) v3
      · refine T_aload_n (pc := 52) 0 dX0_wordsAtLeast_52 rfl rfl ?_
        refine T_iload (pc := 53) 4 dX0_wordsAtLeast_53 rfl ?_
        refine T_iload_n (pc := 55) 1 dX0_wordsAtLeast_55 rfl rfl ?_
        refine T_callSi (pc := 56) (rest := [.int v3, .ref 33]) (Rn_V (pc := 56) (as := [.int x2, .int v1]) (rest := [.int v3, .ref 33]) (ctX0_kindOf σ x2 v1) rfl rfl mv_X0_kindOf hw911 rfl ⟨Nat.le_of_ble_eq_true rfl, Nat.le_of_ble_eq_true rfl⟩ (Nat.le_of_ble_eq_true rfl) dX0_wordsAtLeast_56 rfl) rfl (fun r15 => ?_)
        refine T_iconst (pc := 59) (v := 5) dX0_wordsAtLeast_59 (by decide) ?_
        refine T_icmp_ne (pc := 60) 67 dX0_wordsAtLeast_60 (by decide) (fun _ => ?_) (fun _ => ?_)
        · refine T_iconst (pc := 67) (v := 0) dX0_wordsAtLeast_67 (by decide) ?_
          exact fX0_wordsAtLeast_J68_T (hkb := hkb) r15.2 v1 v2 v3 x2 (bi x3) (0 : Int32) v3
        · refine T_iconst (pc := 63) (v := 1) dX0_wordsAtLeast_63 (by decide) ?_
          refine T_goto (pc := 64) 68 dX0_wordsAtLeast_64 (by decide) ?_
          exact fX0_wordsAtLeast_J68_T (hkb := hkb) r15.2 v1 v2 v3 x2 (bi x3) (1 : Int32) v3
set_option maxRecDepth 100000 in
set_option maxHeartbeats 4000000 in
theorem fX0_wordsAtLeast_P4_T (v1 : Int32) (σ : St) (v2 : Int32) (v3 : Int32) : T kX0_wordsAtLeast cSi σ 4 [(0, .ref 6), (1, .int v1), (2, .int v2), (3, .int v3)] [] (fX0_wordsAtLeast_P4 v1 σ v2 v3) :=
  it_T (S := (fun t : St × Int32 × Int32 => t.1)) (lv := fun t : St × Int32 × Int32 => [(0, .ref 6), (1, .int v1), (2, .int t.2.1), (3, .int t.2.2)]) (st := fun _ => []) (fun kb hkb t => fX0_wordsAtLeast_L4_T v1 (hkb := fun σ v2 v3 => hkb (σ, v2, v3)) t.1 t.2.1 t.2.2) FU (σ, v2, v3)
set_option maxRecDepth 100000 in
set_option maxHeartbeats 4000000 in
theorem ctX0_wordsAtLeast (σ : St) (p0 : Int32) : Ct yX0_wordsAtLeast kX0_wordsAtLeast [.ref 6, .int p0] σ cSi (fX0_wordsAtLeast σ p0) := by
  refine Ct.of (by decide +kernel) rfl rfl (Nat.le_of_ble_eq_true rfl) ?_
  unfold fX0_wordsAtLeast
  show T _ _ _ 0 [(0, .ref 6), (1, .int p0)] [] _
  refine T_iconst (pc := 0) (v := 0) dX0_wordsAtLeast_0 (by decide) ?_
  refine T_istore_n (pc := 1) (lv' := [(0, .ref 6), (1, .int p0), (2, .int (0 : Int32))]) dX0_wordsAtLeast_1 rfl (Nat.le_of_ble_eq_true rfl) rfl ?_
  refine T_iconst (pc := 2) (v := 0) dX0_wordsAtLeast_2 (by decide) ?_
  refine T_istore_n (pc := 3) (lv' := [(0, .ref 6), (1, .int p0), (2, .int (0 : Int32)), (3, .int (0 : Int32))]) dX0_wordsAtLeast_3 rfl (Nat.le_of_ble_eq_true rfl) rfl ?_
  exact fX0_wordsAtLeast_P4_T p0 σ (0 : Int32) (0 : Int32)
set_option maxRecDepth 100000 in
set_option maxHeartbeats 4000000 in
theorem ctX10_firstLetter (σ : St) (p0 : Int64) : Ct yX10_firstLetter kX10_firstLetter [.long p0] σ (cPi σ) (fX10_firstLetter p0) := by
  refine Ct.of (by decide +kernel) rfl rfl (Nat.le_of_ble_eq_true rfl) ?_
  unfold fX10_firstLetter
  show T _ _ _ 0 [(0, .long p0)] [] _
  refine T_lload_n (pc := 0) 0 dX10_firstLetter_0 rfl rfl ?_
  refine T_callPi (pc := 1) (rest := []) (Rn_S (pc := 1) (as := [.long p0]) (rest := []) (ctX10_letters σ p0) ms_X10_letters hw1355 rfl ⟨Nat.le_of_ble_eq_true rfl, Nat.le_of_ble_eq_true rfl⟩ (Nat.le_of_ble_eq_true rfl) dX10_firstLetter_1 rfl) rfl (fun x1 => ?_)
  refine T_istore_n (pc := 4) (lv' := [(0, .long p0), (2, .int x1)]) dX10_firstLetter_4 rfl (Nat.le_of_ble_eq_true rfl) rfl ?_
  refine T_iload_n (pc := 5) 1 dX10_firstLetter_5 rfl rfl ?_
  refine T_if_ne (pc := 6) 13 dX10_firstLetter_6 (by decide) (fun _ => ?_) (fun _ => ?_)
  · refine T_lload_n (pc := 13) 0 dX10_firstLetter_13 rfl rfl ?_
    refine T_iload_n (pc := 14) 1 dX10_firstLetter_14 rfl rfl ?_
    refine T_iconst (pc := 15) (v := 1) dX10_firstLetter_15 (by decide) ?_
    refine T_isub (pc := 16) dX10_firstLetter_16 ?_
    refine T_callPi (pc := 17) (rest := []) (Rn_S (pc := 17) (as := [.long p0, .int (x1 - (1 : Int32))]) (rest := []) (ctX10_letter σ p0 (x1 - (1 : Int32))) ms_X10_letter hw1351 rfl ⟨Nat.le_of_ble_eq_true rfl, Nat.le_of_ble_eq_true rfl⟩ (Nat.le_of_ble_eq_true rfl) dX10_firstLetter_17 rfl) rfl (fun x2 => ?_)
    exact T_ireturn (pc := 20) rfl dX10_firstLetter_20 rfl
  · refine T_iconst (pc := 9) (v := 0) dX10_firstLetter_9 (by decide) ?_
    refine T_goto (pc := 10) 20 dX10_firstLetter_10 (by decide) ?_
    exact T_ireturn (pc := 20) rfl dX10_firstLetter_20 rfl
set_option maxRecDepth 100000 in
set_option maxHeartbeats 4000000 in
theorem fX10_vowels_L4_T (v0 : Int64) (σ : St) {kb : Int32 → Int32 → Option Int32} (hkb : ∀ (w2 : Int32) (w3 : Int32), T kX10_vowels (cPi σ) σ 4 [(0, .long v0), (2, .int w2), (3, .int w3)] [] (kb w2 w3)) (v2 : Int32) (v3 : Int32) : T kX10_vowels (cPi σ) σ 4 [(0, .long v0), (2, .int v2), (3, .int v3)] [] (fX10_vowels_L4 v0 kb v2 v3) := by
  unfold fX10_vowels_L4
  refine T_iload_n (pc := 4) 2 dX10_vowels_4 rfl rfl ?_
  refine T_bipush (pc := 5) (v := 8) dX10_vowels_5 (by decide) ?_
  refine T_icmp_ge (pc := 7) 84 dX10_vowels_7 (by decide) (fun _ => ?_) (fun _ => ?_)
  · refine T_iload_n (pc := 84) 1 dX10_vowels_84 rfl rfl ?_
    exact T_ireturn (pc := 85) rfl dX10_vowels_85 rfl
  · refine T_lload_n (pc := 10) 0 dX10_vowels_10 rfl rfl ?_
    refine T_iload_n (pc := 11) 2 dX10_vowels_11 rfl rfl ?_
    refine T_callPi (pc := 12) (rest := []) (Rn_S (pc := 12) (as := [.long v0, .int v3]) (rest := []) (ctX10_letter σ v0 v3) ms_X10_letter hw1351 rfl ⟨Nat.le_of_ble_eq_true rfl, Nat.le_of_ble_eq_true rfl⟩ (Nat.le_of_ble_eq_true rfl) dX10_vowels_12 rfl) rfl (fun x1 => ?_)
    refine T_bipush (pc := 15) (v := 97) dX10_vowels_15 (by decide) ?_
    refine T_iadd (pc := 17) dX10_vowels_17 ?_
    refine T_iconst (pc := 18) (v := 1) dX10_vowels_18 (by decide) ?_
    refine T_isub (pc := 19) dX10_vowels_19 ?_
    refine T_ite (fun h97 => ?_) (fun h97 => ?_)
    · refine T_look (pc := 20) (off := 52) 72 dX10_vowels_20 (by decide) (by rw [h97]; rfl) (by decide) ?_
      refine T_iinc (pc := 72) (y := 1) (lv' := [(0, .long v0), (2, .int (v2 + (1 : Int32))), (3, .int v3)]) 1 dX10_vowels_72 (by decide) rfl (Nat.le_of_ble_eq_true rfl) rfl ?_
      refine T_goto (pc := 75) 78 dX10_vowels_75 (by decide) ?_
      refine T_iinc (pc := 78) (y := 1) (lv' := [(0, .long v0), (2, .int (v2 + (1 : Int32))), (3, .int (v3 + (1 : Int32)))]) 2 dX10_vowels_78 (by decide) rfl (Nat.le_of_ble_eq_true rfl) rfl ?_
      refine T_goto (pc := 81) 4 dX10_vowels_81 (by decide) ?_
      exact hkb (v2 + (1 : Int32)) (v3 + (1 : Int32))
    · refine T_ite (fun h101 => ?_) (fun h101 => ?_)
      · refine T_look (pc := 20) (off := 52) 72 dX10_vowels_20 (by decide) (by rw [h101]; rfl) (by decide) ?_
        refine T_iinc (pc := 72) (y := 1) (lv' := [(0, .long v0), (2, .int (v2 + (1 : Int32))), (3, .int v3)]) 1 dX10_vowels_72 (by decide) rfl (Nat.le_of_ble_eq_true rfl) rfl ?_
        refine T_goto (pc := 75) 78 dX10_vowels_75 (by decide) ?_
        refine T_iinc (pc := 78) (y := 1) (lv' := [(0, .long v0), (2, .int (v2 + (1 : Int32))), (3, .int (v3 + (1 : Int32)))]) 2 dX10_vowels_78 (by decide) rfl (Nat.le_of_ble_eq_true rfl) rfl ?_
        refine T_goto (pc := 81) 4 dX10_vowels_81 (by decide) ?_
        exact hkb (v2 + (1 : Int32)) (v3 + (1 : Int32))
      · refine T_ite (fun h105 => ?_) (fun h105 => ?_)
        · refine T_look (pc := 20) (off := 52) 72 dX10_vowels_20 (by decide) (by rw [h105]; rfl) (by decide) ?_
          refine T_iinc (pc := 72) (y := 1) (lv' := [(0, .long v0), (2, .int (v2 + (1 : Int32))), (3, .int v3)]) 1 dX10_vowels_72 (by decide) rfl (Nat.le_of_ble_eq_true rfl) rfl ?_
          refine T_goto (pc := 75) 78 dX10_vowels_75 (by decide) ?_
          refine T_iinc (pc := 78) (y := 1) (lv' := [(0, .long v0), (2, .int (v2 + (1 : Int32))), (3, .int (v3 + (1 : Int32)))]) 2 dX10_vowels_78 (by decide) rfl (Nat.le_of_ble_eq_true rfl) rfl ?_
          refine T_goto (pc := 81) 4 dX10_vowels_81 (by decide) ?_
          exact hkb (v2 + (1 : Int32)) (v3 + (1 : Int32))
        · refine T_ite (fun h111 => ?_) (fun h111 => ?_)
          · refine T_look (pc := 20) (off := 52) 72 dX10_vowels_20 (by decide) (by rw [h111]; rfl) (by decide) ?_
            refine T_iinc (pc := 72) (y := 1) (lv' := [(0, .long v0), (2, .int (v2 + (1 : Int32))), (3, .int v3)]) 1 dX10_vowels_72 (by decide) rfl (Nat.le_of_ble_eq_true rfl) rfl ?_
            refine T_goto (pc := 75) 78 dX10_vowels_75 (by decide) ?_
            refine T_iinc (pc := 78) (y := 1) (lv' := [(0, .long v0), (2, .int (v2 + (1 : Int32))), (3, .int (v3 + (1 : Int32)))]) 2 dX10_vowels_78 (by decide) rfl (Nat.le_of_ble_eq_true rfl) rfl ?_
            refine T_goto (pc := 81) 4 dX10_vowels_81 (by decide) ?_
            exact hkb (v2 + (1 : Int32)) (v3 + (1 : Int32))
          · refine T_ite (fun h117 => ?_) (fun h117 => ?_)
            · refine T_look (pc := 20) (off := 52) 72 dX10_vowels_20 (by decide) (by rw [h117]; rfl) (by decide) ?_
              refine T_iinc (pc := 72) (y := 1) (lv' := [(0, .long v0), (2, .int (v2 + (1 : Int32))), (3, .int v3)]) 1 dX10_vowels_72 (by decide) rfl (Nat.le_of_ble_eq_true rfl) rfl ?_
              refine T_goto (pc := 75) 78 dX10_vowels_75 (by decide) ?_
              refine T_iinc (pc := 78) (y := 1) (lv' := [(0, .long v0), (2, .int (v2 + (1 : Int32))), (3, .int (v3 + (1 : Int32)))]) 2 dX10_vowels_78 (by decide) rfl (Nat.le_of_ble_eq_true rfl) rfl ?_
              refine T_goto (pc := 81) 4 dX10_vowels_81 (by decide) ?_
              exact hkb (v2 + (1 : Int32)) (v3 + (1 : Int32))
            · refine T_look (pc := 20) (off := 58) 78 dX10_vowels_20 (by decide) (by show Op.lookupswitch.offset [(97, 52), (101, 52), (105, 52), (111, 52), (117, 52)] _ _ = _; rw [lv_osw (a := 97) (k := 97) h97 (by decide), lv_osw (a := 101) (k := 101) h101 (by decide), lv_osw (a := 105) (k := 105) h105 (by decide), lv_osw (a := 111) (k := 111) h111 (by decide), lv_osw (a := 117) (k := 117) h117 (by decide)]; rfl) (by decide) ?_
              refine T_iinc (pc := 78) (y := 1) (lv' := [(0, .long v0), (2, .int v2), (3, .int (v3 + (1 : Int32)))]) 2 dX10_vowels_78 (by decide) rfl (Nat.le_of_ble_eq_true rfl) rfl ?_
              refine T_goto (pc := 81) 4 dX10_vowels_81 (by decide) ?_
              exact hkb v2 (v3 + (1 : Int32))
set_option maxRecDepth 100000 in
set_option maxHeartbeats 4000000 in
theorem fX10_vowels_P4_T (v0 : Int64) (σ : St) (v2 : Int32) (v3 : Int32) : T kX10_vowels (cPi σ) σ 4 [(0, .long v0), (2, .int v2), (3, .int v3)] [] (fX10_vowels_P4 v0 v2 v3) :=
  it_T (S := (fun _ : Int32 × Int32 => σ)) (lv := fun t : Int32 × Int32 => [(0, .long v0), (2, .int t.1), (3, .int t.2)]) (st := fun _ => []) (fun kb hkb t => fX10_vowels_L4_T v0 (hkb := fun v2 v3 => hkb (v2, v3)) σ t.1 t.2) FU (v2, v3)
set_option maxRecDepth 100000 in
set_option maxHeartbeats 4000000 in
theorem ctX10_vowels (σ : St) (p0 : Int64) : Ct yX10_vowels kX10_vowels [.long p0] σ (cPi σ) (fX10_vowels p0) := by
  refine Ct.of (by decide +kernel) rfl rfl (Nat.le_of_ble_eq_true rfl) ?_
  unfold fX10_vowels
  show T _ _ _ 0 [(0, .long p0)] [] _
  refine T_iconst (pc := 0) (v := 0) dX10_vowels_0 (by decide) ?_
  refine T_istore_n (pc := 1) (lv' := [(0, .long p0), (2, .int (0 : Int32))]) dX10_vowels_1 rfl (Nat.le_of_ble_eq_true rfl) rfl ?_
  refine T_iconst (pc := 2) (v := 0) dX10_vowels_2 (by decide) ?_
  refine T_istore_n (pc := 3) (lv' := [(0, .long p0), (2, .int (0 : Int32)), (3, .int (0 : Int32))]) dX10_vowels_3 rfl (Nat.le_of_ble_eq_true rfl) rfl ?_
  exact fX10_vowels_P4_T p0 σ (0 : Int32) (0 : Int32)
set_option maxRecDepth 100000 in
set_option maxHeartbeats 4000000 in
theorem ctX10_with (σ : St) (p0 : Int64) (p1 : Int32) : Ct yX10_with kX10_with [.long p0, .int p1] σ (cPl σ) (fX10_with p0 p1) := by
  refine Ct.of (by decide +kernel) rfl rfl (Nat.le_of_ble_eq_true rfl) ?_
  unfold fX10_with
  show T _ _ _ 0 [(0, .long p0), (2, .int p1)] [] _
  refine T_lload_n (pc := 0) 0 dX10_with_0 rfl rfl ?_
  refine T_iconst (pc := 1) (v := 5) dX10_with_1 (by decide) ?_
  refine T_lshl (pc := 2) dX10_with_2 ?_
  refine T_iload_n (pc := 3) 1 dX10_with_3 rfl rfl ?_
  refine T_bipush (pc := 4) (v := 97) dX10_with_4 (by decide) ?_
  refine T_isub (pc := 6) dX10_with_6 ?_
  refine T_iconst (pc := 7) (v := 1) dX10_with_7 (by decide) ?_
  refine T_iadd (pc := 8) dX10_with_8 ?_
  refine T_i2l (pc := 9) dX10_with_9 ?_
  refine T_lor (pc := 10) dX10_with_10 ?_
  exact T_lreturn (pc := 11) rfl dX10_with_11 rfl
set_option maxRecDepth 100000 in
set_option maxHeartbeats 4000000 in
theorem ctX7_hasRoll (σ : St) (p0 : Int32) : Ct yX7_hasRoll kX7_hasRoll [.ref 5, .int p0] σ (cPz σ) (fX7_hasRoll σ p0) := by
  refine Ct.of (by decide +kernel) rfl rfl (Nat.le_of_ble_eq_true rfl) ?_
  unfold fX7_hasRoll
  show T _ _ _ 0 [(0, .ref 5), (1, .int p0)] [] _
  refine T_iload_n (pc := 0) 1 dX7_hasRoll_0 rfl rfl ?_
  refine T_if_lt (pc := 1) 22 dX7_hasRoll_1 (by decide) (fun _ => ?_) (fun _ => ?_)
  · refine T_iconst (pc := 22) (v := 0) dX7_hasRoll_22 (by decide) ?_
    exact T_zreturn (pc := 23) false rfl dX7_hasRoll_23 rfl rfl
  · refine T_iload_n (pc := 4) 1 dX7_hasRoll_4 rfl rfl ?_
    refine T_aload_n (pc := 5) 0 dX7_hasRoll_5 rfl rfl ?_
    refine T_getI (pc := 6) fd_5_8 hw155 dX7_hasRoll_6 ?_
    refine T_icmp_ge (pc := 9) 22 dX7_hasRoll_9 (by decide) (fun _ => ?_) (fun _ => ?_)
    · refine T_iconst (pc := 22) (v := 0) dX7_hasRoll_22 (by decide) ?_
      exact T_zreturn (pc := 23) false rfl dX7_hasRoll_23 rfl rfl
    · refine T_iload_n (pc := 12) 1 dX7_hasRoll_12 rfl rfl ?_
      refine T_bipush (pc := 13) (v := 8) dX7_hasRoll_13 (by decide) ?_
      refine T_icmp_ge (pc := 15) 22 dX7_hasRoll_15 (by decide) (fun _ => ?_) (fun _ => ?_)
      · refine T_iconst (pc := 22) (v := 0) dX7_hasRoll_22 (by decide) ?_
        exact T_zreturn (pc := 23) false rfl dX7_hasRoll_23 rfl rfl
      · refine T_iconst (pc := 18) (v := 1) dX7_hasRoll_18 (by decide) ?_
        refine T_goto (pc := 19) 23 dX7_hasRoll_19 (by decide) ?_
        exact T_zreturn (pc := 23) true rfl dX7_hasRoll_23 rfl rfl
set_option maxRecDepth 100000 in
set_option maxHeartbeats 4000000 in
theorem ctX8_playedAt (σ : St) (p0 : Int32) : Ct yX8_playedAt kX8_playedAt [.ref 8, .int p0] σ (cPi σ) (fX8_playedAt σ p0) := by
  refine Ct.of (by decide +kernel) rfl rfl (Nat.le_of_ble_eq_true rfl) ?_
  unfold fX8_playedAt
  show T _ _ _ 0 [(0, .ref 8), (1, .int p0)] [] _
  refine T_iload_n (pc := 0) 1 dX8_playedAt_0 rfl rfl ?_
  refine T_if_lt (pc := 1) 30 dX8_playedAt_1 (by decide) (fun _ => ?_) (fun _ => ?_)
  · refine T_iconst (pc := 30) (v := -1) dX8_playedAt_30 (by decide) ?_
    exact T_ireturn (pc := 31) rfl dX8_playedAt_31 rfl
  · refine T_iload_n (pc := 4) 1 dX8_playedAt_4 rfl rfl ?_
    refine T_aload_n (pc := 5) 0 dX8_playedAt_5 rfl rfl ?_
    refine T_getI (pc := 6) fd_8_5 hw394 dX8_playedAt_6 ?_
    refine T_icmp_ge (pc := 9) 30 dX8_playedAt_9 (by decide) (fun _ => ?_) (fun _ => ?_)
    · refine T_iconst (pc := 30) (v := -1) dX8_playedAt_30 (by decide) ?_
      exact T_ireturn (pc := 31) rfl dX8_playedAt_31 rfl
    · refine T_iload_n (pc := 12) 1 dX8_playedAt_12 rfl rfl ?_
      refine T_aload_n (pc := 13) 0 dX8_playedAt_13 rfl rfl ?_
      refine T_getA (pc := 14) fd_8_2 hw391 dX8_playedAt_14 ?_
      refine T_alen (pc := 17) (v := 96) rfl (by decide) dX8_playedAt_17 ?_
      refine T_icmp_ge (pc := 18) 30 dX8_playedAt_18 (by decide) (fun _ => ?_) (fun _ => ?_)
      · refine T_iconst (pc := 30) (v := -1) dX8_playedAt_30 (by decide) ?_
        exact T_ireturn (pc := 31) rfl dX8_playedAt_31 rfl
      · refine T_aload_n (pc := 21) 0 dX8_playedAt_21 rfl rfl ?_
        refine T_getA (pc := 22) fd_8_2 hw391 dX8_playedAt_22 ?_
        refine T_iload_n (pc := 25) 1 dX8_playedAt_25 rfl rfl ?_
        refine T_iald (pc := 26) rfl dX8_playedAt_26 (fun x1 => ?_)
        refine T_goto (pc := 27) 31 dX8_playedAt_27 (by decide) ?_
        exact T_ireturn (pc := 31) rfl dX8_playedAt_31 rfl
set_option maxRecDepth 100000 in
set_option maxHeartbeats 4000000 in
theorem ctX7_sizeOf (σ : St) (p0 : Int32) : Ct yX7_sizeOf kX7_sizeOf [.ref 5, .int p0] σ (cPi σ) (fX7_sizeOf σ p0) := by
  refine Ct.of (by decide +kernel) rfl rfl (Nat.le_of_ble_eq_true rfl) ?_
  unfold fX7_sizeOf
  show T _ _ _ 0 [(0, .ref 5), (1, .int p0)] [] _
  refine T_iload_n (pc := 0) 1 dX7_sizeOf_0 rfl rfl ?_
  refine T_if_lt (pc := 1) 30 dX7_sizeOf_1 (by decide) (fun _ => ?_) (fun _ => ?_)
  · refine T_iconst (pc := 30) (v := 0) dX7_sizeOf_30 (by decide) ?_
    exact T_ireturn (pc := 31) rfl dX7_sizeOf_31 rfl
  · refine T_iload_n (pc := 4) 1 dX7_sizeOf_4 rfl rfl ?_
    refine T_aload_n (pc := 5) 0 dX7_sizeOf_5 rfl rfl ?_
    refine T_getI (pc := 6) fd_5_8 hw155 dX7_sizeOf_6 ?_
    refine T_icmp_ge (pc := 9) 30 dX7_sizeOf_9 (by decide) (fun _ => ?_) (fun _ => ?_)
    · refine T_iconst (pc := 30) (v := 0) dX7_sizeOf_30 (by decide) ?_
      exact T_ireturn (pc := 31) rfl dX7_sizeOf_31 rfl
    · refine T_iload_n (pc := 12) 1 dX7_sizeOf_12 rfl rfl ?_
      refine T_aload_n (pc := 13) 0 dX7_sizeOf_13 rfl rfl ?_
      refine T_getA (pc := 14) fd_5_0 hw147 dX7_sizeOf_14 ?_
      refine T_alen (pc := 17) (v := 8) rfl (by decide) dX7_sizeOf_17 ?_
      refine T_icmp_ge (pc := 18) 30 dX7_sizeOf_18 (by decide) (fun _ => ?_) (fun _ => ?_)
      · refine T_iconst (pc := 30) (v := 0) dX7_sizeOf_30 (by decide) ?_
        exact T_ireturn (pc := 31) rfl dX7_sizeOf_31 rfl
      · refine T_aload_n (pc := 21) 0 dX7_sizeOf_21 rfl rfl ?_
        refine T_getA (pc := 22) fd_5_0 hw147 dX7_sizeOf_22 ?_
        refine T_iload_n (pc := 25) 1 dX7_sizeOf_25 rfl rfl ?_
        refine T_iald (pc := 26) rfl dX7_sizeOf_26 (fun x1 => ?_)
        refine T_goto (pc := 27) 31 dX7_sizeOf_27 (by decide) ?_
        exact T_ireturn (pc := 31) rfl dX7_sizeOf_31 rfl
