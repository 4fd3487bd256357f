/-! methods X7_cueWordsOf .. X7_hasCue: by program (wip/gen) -/
set_option maxRecDepth 100000 in
set_option maxHeartbeats 4000000 in
theorem ctX7_cueWordsOf (σ : St) (p0 : Int32) : Ct yX7_cueWordsOf kX7_cueWordsOf [.ref 5, .int p0] σ (cPi σ) (fX7_cueWordsOf σ p0) := by
  refine Ct.of (by decide +kernel) rfl rfl (Nat.le_of_ble_eq_true rfl) ?_
  unfold fX7_cueWordsOf
  show T _ _ _ 0 [(0, .ref 5), (1, .int p0)] [] _
  refine T_iload_n (pc := 0) 1 dX7_cueWordsOf_0 rfl rfl ?_
  refine T_if_lt (pc := 1) 22 dX7_cueWordsOf_1 (by decide) (fun _ => ?_) (fun _ => ?_)
  · refine T_iconst (pc := 22) (v := 0) dX7_cueWordsOf_22 (by decide) ?_
    exact T_ireturn (pc := 23) rfl dX7_cueWordsOf_23 rfl
  · refine T_iload_n (pc := 4) 1 dX7_cueWordsOf_4 rfl rfl ?_
    refine T_aload_n (pc := 5) 0 dX7_cueWordsOf_5 rfl rfl ?_
    refine T_getA (pc := 6) fd_5_2 hw149 dX7_cueWordsOf_6 ?_
    refine T_alen (pc := 9) (v := 128) rfl (by decide) dX7_cueWordsOf_9 ?_
    refine T_icmp_ge (pc := 10) 22 dX7_cueWordsOf_10 (by decide) (fun _ => ?_) (fun _ => ?_)
    · refine T_iconst (pc := 22) (v := 0) dX7_cueWordsOf_22 (by decide) ?_
      exact T_ireturn (pc := 23) rfl dX7_cueWordsOf_23 rfl
    · refine T_aload_n (pc := 13) 0 dX7_cueWordsOf_13 rfl rfl ?_
      refine T_getA (pc := 14) fd_5_2 hw149 dX7_cueWordsOf_14 ?_
      refine T_iload_n (pc := 17) 1 dX7_cueWordsOf_17 rfl rfl ?_
      refine T_iald (pc := 18) rfl dX7_cueWordsOf_18 (fun x1 => ?_)
      refine T_goto (pc := 19) 23 dX7_cueWordsOf_19 (by decide) ?_
      exact T_ireturn (pc := 23) rfl dX7_cueWordsOf_23 rfl
set_option maxRecDepth 100000 in
set_option maxHeartbeats 4000000 in
theorem ctX7_cueWord (σ : St) (p0 : Int32) (p1 : Int32) : Ct yX7_cueWord kX7_cueWord [.ref 5, .int p0, .int p1] σ (cPl σ) (fX7_cueWord σ p0 p1) := by
  refine Ct.of (by decide +kernel) rfl rfl (Nat.le_of_ble_eq_true rfl) ?_
  unfold fX7_cueWord
  show T _ _ _ 0 [(0, .ref 5), (1, .int p0), (2, .int p1)] [] _
  refine T_iload_n (pc := 0) 1 dX7_cueWord_0 rfl rfl ?_
  refine T_if_lt (pc := 1) 24 dX7_cueWord_1 (by decide) (fun _ => ?_) (fun _ => ?_)
  · refine T_lconst (pc := 24) (v := 0) dX7_cueWord_24 (by decide) ?_
    exact T_lreturn (pc := 25) rfl dX7_cueWord_25 rfl
  · refine T_iload_n (pc := 4) 1 dX7_cueWord_4 rfl rfl ?_
    refine T_sipush (pc := 5) (v := 128) dX7_cueWord_5 (by decide) ?_
    refine T_icmp_ge (pc := 8) 24 dX7_cueWord_8 (by decide) (fun _ => ?_) (fun _ => ?_)
    · refine T_lconst (pc := 24) (v := 0) dX7_cueWord_24 (by decide) ?_
      exact T_lreturn (pc := 25) rfl dX7_cueWord_25 rfl
    · refine T_iload_n (pc := 11) 2 dX7_cueWord_11 rfl rfl ?_
      refine T_if_lt (pc := 12) 24 dX7_cueWord_12 (by decide) (fun _ => ?_) (fun _ => ?_)
      · refine T_lconst (pc := 24) (v := 0) dX7_cueWord_24 (by decide) ?_
        exact T_lreturn (pc := 25) rfl dX7_cueWord_25 rfl
      · refine T_iload_n (pc := 15) 2 dX7_cueWord_15 rfl rfl ?_
        refine T_aload_n (pc := 16) 0 dX7_cueWord_16 rfl rfl ?_
        refine T_iload_n (pc := 17) 1 dX7_cueWord_17 rfl rfl ?_
        refine T_callPi (pc := 18) (rest := [.int p1]) (Rn_V (pc := 18) (as := [.int p0]) (rest := [.int p1]) (ctX7_cueWordsOf σ p0) rfl rfl mv_X7_cueWordsOf hw817 rfl ⟨Nat.le_of_ble_eq_true rfl, Nat.le_of_ble_eq_true rfl⟩ (Nat.le_of_ble_eq_true rfl) dX7_cueWord_18 rfl) rfl (fun x1 => ?_)
        refine T_icmp_lt (pc := 21) 26 dX7_cueWord_21 (by decide) (fun _ => ?_) (fun _ => ?_)
        · refine T_iconst (pc := 26) (v := 2) dX7_cueWord_26 (by decide) ?_
          refine T_iload_n (pc := 27) 1 dX7_cueWord_27 rfl rfl ?_
          refine T_imul (pc := 28) dX7_cueWord_28 ?_
          refine T_iload_n (pc := 29) 2 dX7_cueWord_29 rfl rfl ?_
          refine T_iadd (pc := 30) dX7_cueWord_30 ?_
          refine T_letI (fun x2 => ?_)
          refine T_istore_n (pc := 31) (lv' := [(0, .ref 5), (1, .int p0), (2, .int p1), (3, .int x2)]) dX7_cueWord_31 rfl (Nat.le_of_ble_eq_true rfl) rfl ?_
          refine T_iload_n (pc := 32) 3 dX7_cueWord_32 rfl rfl ?_
          refine T_aload_n (pc := 33) 0 dX7_cueWord_33 rfl rfl ?_
          refine T_getA (pc := 34) fd_5_3 hw150 dX7_cueWord_34 ?_
          refine T_alenL (pc := 37) (v := 256) rfl (by decide) dX7_cueWord_37 ?_
          refine T_icmp_ge (pc := 38) 50 dX7_cueWord_38 (by decide) (fun _ => ?_) (fun _ => ?_)
          · refine T_lconst (pc := 50) (v := 0) dX7_cueWord_50 (by decide) ?_
            exact T_lreturn (pc := 51) rfl dX7_cueWord_51 rfl
          · refine T_aload_n (pc := 41) 0 dX7_cueWord_41 rfl rfl ?_
            refine T_getA (pc := 42) fd_5_3 hw150 dX7_cueWord_42 ?_
            refine T_iload_n (pc := 45) 3 dX7_cueWord_45 rfl rfl ?_
            refine T_lald (pc := 46) rfl dX7_cueWord_46 (fun x3 => ?_)
            refine T_goto (pc := 47) 51 dX7_cueWord_47 (by decide) ?_
            exact T_lreturn (pc := 51) rfl dX7_cueWord_51 rfl
        · refine T_lconst (pc := 24) (v := 0) dX7_cueWord_24 (by decide) ?_
          exact T_lreturn (pc := 25) rfl dX7_cueWord_25 rfl
set_option maxRecDepth 100000 in
set_option maxHeartbeats 4000000 in
theorem fX0_alike_L26_T (v1 : Int32) (v2 : Int32) (v3 : Int32) (σ : St) {kb : Int32 → Option Bool} (hkb : ∀ (w4 : Int32), T kX0_alike (cPz σ) σ 26 [(0, .ref 6), (1, .int v1), (2, .int v2), (3, .int v3), (4, .int w4)] [] (kb w4)) (v4 : Int32) : T kX0_alike (cPz σ) σ 26 [(0, .ref 6), (1, .int v1), (2, .int v2), (3, .int v3), (4, .int v4)] [] (fX0_alike_L26 v1 v2 v3 kb σ v4) := by
  unfold fX0_alike_L26
  refine T_iload (pc := 26) 4 dX0_alike_26 rfl ?_
  refine T_iload_n (pc := 28) 3 dX0_alike_28 rfl rfl ?_
  refine T_icmp_ge (pc := 29) 64 dX0_alike_29 (by decide) (fun _ => ?_) (fun _ => ?_)
  · refine T_iconst (pc := 64) (v := 1) dX0_alike_64 (by decide) ?_
    exact T_zreturn (pc := 65) true rfl dX0_alike_65 rfl rfl
  · refine T_aload_n (pc := 32) 0 dX0_alike_32 rfl rfl ?_
    refine T_getA (pc := 33) fd_6_0 hw186 dX0_alike_33 ?_
    refine T_iload_n (pc := 36) 1 dX0_alike_36 rfl rfl ?_
    refine T_iload (pc := 37) 4 dX0_alike_37 rfl ?_
    refine T_callPl (pc := 39) (rest := []) (Rn_V (pc := 39) (as := [.int v1, .int v4]) (rest := []) (ctX7_cueWord σ v1 v4) rfl rfl mv_X7_cueWord hw813 rfl ⟨Nat.le_of_ble_eq_true rfl, Nat.le_of_ble_eq_true rfl⟩ (Nat.le_of_ble_eq_true rfl) dX0_alike_39 rfl) rfl (fun x3 => ?_)
    refine T_aload_n (pc := 42) 0 dX0_alike_42 rfl rfl ?_
    refine T_getA (pc := 43) fd_6_0 hw186 dX0_alike_43 ?_
    refine T_iload_n (pc := 46) 2 dX0_alike_46 rfl rfl ?_
    refine T_iload (pc := 47) 4 dX0_alike_47 rfl ?_
    refine T_callPl (pc := 49) (rest := [.long x3]) (Rn_V (pc := 49) (as := [.int v2, .int v4]) (rest := [.long x3]) (ctX7_cueWord σ v2 v4) rfl rfl mv_X7_cueWord hw813 rfl ⟨Nat.le_of_ble_eq_true rfl, Nat.le_of_ble_eq_true rfl⟩ (Nat.le_of_ble_eq_true rfl) dX0_alike_49 rfl) rfl (fun x4 => ?_)
    refine T_lcmp (pc := 52) dX0_alike_52 ?_
    refine T_if_eq (pc := 53) 58 dX0_alike_53 (by decide) (fun _ => ?_) (fun _ => ?_)
    · refine T_iinc (pc := 58) (y := 1) (lv' := [(0, .ref 6), (1, .int v1), (2, .int v2), (3, .int v3), (4, .int (v4 + (1 : Int32)))]) 4 dX0_alike_58 (by decide) rfl (Nat.le_of_ble_eq_true rfl) rfl ?_
      refine T_goto (pc := 61) 26 dX0_alike_61 (by decide) ?_
      exact hkb (v4 + (1 : Int32))
    · refine T_iconst (pc := 56) (v := 0) dX0_alike_56 (by decide) ?_
      exact T_zreturn (pc := 57) false rfl dX0_alike_57 rfl rfl
set_option maxRecDepth 100000 in
set_option maxHeartbeats 4000000 in
theorem fX0_alike_P26_T (v1 : Int32) (v2 : Int32) (v3 : Int32) (σ : St) (v4 : Int32) : T kX0_alike (cPz σ) σ 26 [(0, .ref 6), (1, .int v1), (2, .int v2), (3, .int v3), (4, .int v4)] [] (fX0_alike_P26 v1 v2 v3 σ v4) :=
  it_T (S := (fun _ : Int32 => σ)) (lv := fun t : Int32 => [(0, .ref 6), (1, .int v1), (2, .int v2), (3, .int v3), (4, .int t)]) (st := fun _ => []) (fun kb hkb t => fX0_alike_L26_T v1 v2 v3 (hkb := fun v4 => hkb v4) σ t) FU v4
set_option maxRecDepth 100000 in
set_option maxHeartbeats 4000000 in
theorem ctX0_alike (σ : St) (p0 : Int32) (p1 : Int32) : Ct yX0_alike kX0_alike [.ref 6, .int p0, .int p1] σ (cPz σ) (fX0_alike σ p0 p1) := by
  refine Ct.of (by decide +kernel) rfl rfl (Nat.le_of_ble_eq_true rfl) ?_
  unfold fX0_alike
  show T _ _ _ 0 [(0, .ref 6), (1, .int p0), (2, .int p1)] [] _
  refine T_aload_n (pc := 0) 0 dX0_alike_0 rfl rfl ?_
  refine T_getA (pc := 1) fd_6_0 hw186 dX0_alike_1 ?_
  refine T_iload_n (pc := 4) 1 dX0_alike_4 rfl rfl ?_
  refine T_callPi (pc := 5) (rest := []) (Rn_V (pc := 5) (as := [.int p0]) (rest := []) (ctX7_cueWordsOf σ p0) rfl rfl mv_X7_cueWordsOf hw805 rfl ⟨Nat.le_of_ble_eq_true rfl, Nat.le_of_ble_eq_true rfl⟩ (Nat.le_of_ble_eq_true rfl) dX0_alike_5 rfl) rfl (fun x1 => ?_)
  refine T_istore_n (pc := 8) (lv' := [(0, .ref 6), (1, .int p0), (2, .int p1), (3, .int x1)]) dX0_alike_8 rfl (Nat.le_of_ble_eq_true rfl) rfl ?_
  refine T_iload_n (pc := 9) 3 dX0_alike_9 rfl rfl ?_
  refine T_aload_n (pc := 10) 0 dX0_alike_10 rfl rfl ?_
  refine T_getA (pc := 11) fd_6_0 hw186 dX0_alike_11 ?_
  refine T_iload_n (pc := 14) 2 dX0_alike_14 rfl rfl ?_
  refine T_callPi (pc := 15) (rest := [.int x1]) (Rn_V (pc := 15) (as := [.int p1]) (rest := [.int x1]) (ctX7_cueWordsOf σ p1) rfl rfl mv_X7_cueWordsOf hw805 rfl ⟨Nat.le_of_ble_eq_true rfl, Nat.le_of_ble_eq_true rfl⟩ (Nat.le_of_ble_eq_true rfl) dX0_alike_15 rfl) rfl (fun x2 => ?_)
  refine T_icmp_eq (pc := 18) 23 dX0_alike_18 (by decide) (fun _ => ?_) (fun _ => ?_)
  · refine T_iconst (pc := 23) (v := 0) dX0_alike_23 (by decide) ?_
    refine T_istore (pc := 24) (lv' := [(0, .ref 6), (1, .int p0), (2, .int p1), (3, .int x1), (4, .int (0 : Int32))]) dX0_alike_24 (Nat.le_of_ble_eq_true rfl) rfl ?_
    exact fX0_alike_P26_T p0 p1 x1 σ (0 : Int32)
  · refine T_iconst (pc := 21) (v := 0) dX0_alike_21 (by decide) ?_
    exact T_zreturn (pc := 22) false rfl dX0_alike_22 rfl rfl
set_option maxRecDepth 100000 in
set_option maxHeartbeats 4000000 in
theorem ctJ9_min_7cf53 (σ : St) (p0 : Int32) (p1 : Int32) : Ct yJ9_min_7cf53 kJ9_min_7cf53 [.int p0, .int p1] σ (cPi σ) (fJ9_min_7cf53 p0 p1) := by
  refine Ct.ofJ (by decide +kernel) rfl rfl (Nat.le_of_ble_eq_true rfl) ?_
  unfold fJ9_min_7cf53
  show T _ _ _ 0 [(0, .int p0), (1, .int p1)] [] _
  refine T_iload_n (pc := 0) 0 dJ9_min_7cf53_0 rfl rfl ?_
  refine T_iload_n (pc := 1) 1 dJ9_min_7cf53_1 rfl rfl ?_
  refine T_icmp_gt (pc := 2) 9 dJ9_min_7cf53_2 (by decide) (fun _ => ?_) (fun _ => ?_)
  · refine T_iload_n (pc := 9) 1 dJ9_min_7cf53_9 rfl rfl ?_
    exact T_ireturn (pc := 10) rfl dJ9_min_7cf53_10 rfl
  · refine T_iload_n (pc := 5) 0 dJ9_min_7cf53_5 rfl rfl ?_
    refine T_goto (pc := 6) 10 dJ9_min_7cf53_6 (by decide) ?_
    exact T_ireturn (pc := 10) rfl dJ9_min_7cf53_10 rfl
set_option maxRecDepth 100000 in
set_option maxHeartbeats 4000000 in
theorem fX0_changesBetween_L35_T (v1 : Int32) (v2 : Int32) (σ : St) {k1 : St → Option (Int32 × St)} {kb : St → Int32 → Option (Int32 × St)} (hk1 : ∀ (σ' : St), T kX0_changesBetween cSi σ' 53 [(0, .ref 6), (1, .int v1), (2, .int v2)] [] (k1 σ')) (hkb : ∀ (σ' : St) (w3 : Int32), T kX0_changesBetween cSi σ' 35 [(0, .ref 6), (1, .int v1), (2, .int v2), (3, .int w3)] [] (kb σ' w3)) (v3 : Int32) : T kX0_changesBetween cSi σ 35 [(0, .ref 6), (1, .int v1), (2, .int v2), (3, .int v3)] [] (fX0_changesBetween_L35 v1 v2 k1 kb σ v3) := by
  unfold fX0_changesBetween_L35
  refine T_iload_n (pc := 35) 3 dX0_changesBetween_35 rfl rfl ?_
  refine T_iload_n (pc := 36) 2 dX0_changesBetween_36 rfl rfl ?_
  refine T_icmp_gt (pc := 37) 53 dX0_changesBetween_37 (by decide) (fun _ => ?_) (fun _ => ?_)
  · refine T_pick (lv' := [(0, .ref 6), (1, .int v1), (2, .int v2)]) [0, 1, 2] rfl ?_
    exact hk1 σ
  · refine T_aload_n (pc := 40) 0 dX0_changesBetween_40 rfl rfl ?_
    refine T_getA (pc := 41) fd_6_3 hw189 dX0_changesBetween_41 ?_
    refine T_iload_n (pc := 44) 3 dX0_changesBetween_44 rfl rfl ?_
    refine T_iload_n (pc := 45) 3 dX0_changesBetween_45 rfl rfl ?_
    refine T_iast (pc := 46) rfl dX0_changesBetween_46 ?_
    refine T_letS (fun s1 => ?_)
    refine T_iinc (pc := 47) (y := 1) (lv' := [(0, .ref 6), (1, .int v1), (2, .int v2), (3, .int (v3 + (1 : Int32)))]) 3 dX0_changesBetween_47 (by decide) rfl (Nat.le_of_ble_eq_true rfl) rfl ?_
    refine T_goto (pc := 50) 35 dX0_changesBetween_50 (by decide) ?_
    exact hkb s1 (v3 + (1 : Int32))
set_option maxRecDepth 100000 in
set_option maxHeartbeats 4000000 in
theorem fX0_changesBetween_P35_T (v1 : Int32) (v2 : Int32) (σ : St) {k1 : St → Option (Int32 × St)} (hk1 : ∀ (σ' : St), T kX0_changesBetween cSi σ' 53 [(0, .ref 6), (1, .int v1), (2, .int v2)] [] (k1 σ')) (v3 : Int32) : T kX0_changesBetween cSi σ 35 [(0, .ref 6), (1, .int v1), (2, .int v2), (3, .int v3)] [] (fX0_changesBetween_P35 v1 v2 k1 σ v3) :=
  it_T (S := (fun t : St × Int32 => t.1)) (lv := fun t : St × Int32 => [(0, .ref 6), (1, .int v1), (2, .int v2), (3, .int t.2)]) (st := fun _ => []) (fun kb hkb t => fX0_changesBetween_L35_T v1 v2 (hk1 := hk1) (hkb := fun σ v3 => hkb (σ, v3)) t.1 t.2) FU (σ, v3)
set_option maxRecDepth 100000 in
set_option maxHeartbeats 4000000 in
theorem fX0_changesBetween_L80_T (v1 : Int32) (v2 : Int32) (v3 : Int32) (σ : St) {k1 : St → Option (Int32 × St)} {kb : St → Int32 → Int32 → Option (Int32 × St)} (hk1 : ∀ (σ' : St), T kX0_changesBetween cSi σ' 164 [(0, .ref 6), (1, .int v1), (2, .int v2), (3, .int v3)] [] (k1 σ')) (hkb : ∀ (σ' : St) (w4 : Int32) (w5 : Int32), T kX0_changesBetween cSi σ' 80 [(0, .ref 6), (1, .int v1), (2, .int v2), (3, .int v3), (4, .int w4), (5, .int w5)] [] (kb σ' w4 w5)) (v4 : Int32) (v5 : Int32) : T kX0_changesBetween cSi σ 80 [(0, .ref 6), (1, .int v1), (2, .int v2), (3, .int v3), (4, .int v4), (5, .int v5)] [] (fX0_changesBetween_L80 v1 v2 v3 k1 kb σ v4 v5) := by
  unfold fX0_changesBetween_L80
  refine T_iload (pc := 80) 5 dX0_changesBetween_80 rfl ?_
  refine T_iload_n (pc := 82) 2 dX0_changesBetween_82 rfl rfl ?_
  refine T_icmp_ge (pc := 83) 164 dX0_changesBetween_83 (by decide) (fun _ => ?_) (fun _ => ?_)
  · refine T_pick (lv' := [(0, .ref 6), (1, .int v1), (2, .int v2), (3, .int v3)]) [0, 1, 2, 3] rfl ?_
    exact hk1 σ
  · refine T_iload (pc := 86) 4 dX0_changesBetween_86 rfl ?_
    refine T_aload_n (pc := 88) 0 dX0_changesBetween_88 rfl rfl ?_
    refine T_getA (pc := 89) fd_6_1 hw187 dX0_changesBetween_89 ?_
    refine T_iload_n (pc := 92) 3 dX0_changesBetween_92 rfl rfl ?_
    refine T_iald (pc := 93) rfl dX0_changesBetween_93 (fun x6 => ?_)
    refine T_aload_n (pc := 94) 0 dX0_changesBetween_94 rfl rfl ?_
    refine T_getA (pc := 95) fd_6_2 hw188 dX0_changesBetween_95 ?_
    refine T_iload (pc := 98) 5 dX0_changesBetween_98 rfl ?_
    refine T_iald (pc := 100) rfl dX0_changesBetween_100 (fun x7 => ?_)
    refine T_icmp_ne (pc := 101) 108 dX0_changesBetween_101 (by decide) (fun _ => ?_) (fun _ => ?_)
    · refine T_iconst (pc := 108) (v := 1) dX0_changesBetween_108 (by decide) ?_
      refine T_iadd (pc := 109) dX0_changesBetween_109 ?_
      refine T_letI (fun x8 => ?_)
      refine T_istore (pc := 110) (lv' := [(0, .ref 6), (1, .int v1), (2, .int v2), (3, .int v3), (4, .int v4), (5, .int v5), (6, .int x8)]) dX0_changesBetween_110 (Nat.le_of_ble_eq_true rfl) rfl ?_
      refine T_aload_n (pc := 112) 0 dX0_changesBetween_112 rfl rfl ?_
      refine T_getA (pc := 113) fd_6_3 hw189 dX0_changesBetween_113 ?_
      refine T_iload (pc := 116) 5 dX0_changesBetween_116 rfl ?_
      refine T_iconst (pc := 118) (v := 1) dX0_changesBetween_118 (by decide) ?_
      refine T_iadd (pc := 119) dX0_changesBetween_119 ?_
      refine T_iald (pc := 120) rfl dX0_changesBetween_120 (fun x9 => ?_)
      refine T_istore (pc := 121) (lv' := [(0, .ref 6), (1, .int v1), (2, .int v2), (3, .int v3), (4, .int x9), (5, .int v5), (6, .int x8)]) dX0_changesBetween_121 (Nat.le_of_ble_eq_true rfl) rfl ?_
      refine T_aload_n (pc := 123) 0 dX0_changesBetween_123 rfl rfl ?_
      refine T_getA (pc := 124) fd_6_3 hw189 dX0_changesBetween_124 ?_
      refine T_iload (pc := 127) 5 dX0_changesBetween_127 rfl ?_
      refine T_iconst (pc := 129) (v := 1) dX0_changesBetween_129 (by decide) ?_
      refine T_iadd (pc := 130) dX0_changesBetween_130 ?_
      refine T_iload (pc := 131) 6 dX0_changesBetween_131 rfl ?_
      refine T_iconst (pc := 133) (v := 1) dX0_changesBetween_133 (by decide) ?_
      refine T_aload_n (pc := 134) 0 dX0_changesBetween_134 rfl rfl ?_
      refine T_getA (pc := 135) fd_6_3 hw189 dX0_changesBetween_135 ?_
      refine T_iload (pc := 138) 5 dX0_changesBetween_138 rfl ?_
      refine T_iald (pc := 140) rfl dX0_changesBetween_140 (fun x10 => ?_)
      refine T_aload_n (pc := 141) 0 dX0_changesBetween_141 rfl rfl ?_
      refine T_getA (pc := 142) fd_6_3 hw189 dX0_changesBetween_142 ?_
      refine T_iload (pc := 145) 5 dX0_changesBetween_145 rfl ?_
      refine T_iconst (pc := 147) (v := 1) dX0_changesBetween_147 (by decide) ?_
      refine T_iadd (pc := 148) dX0_changesBetween_148 ?_
      refine T_iald (pc := 149) rfl dX0_changesBetween_149 (fun x11 => ?_)
      refine T_callPi (pc := 150) (rest := [.int (1 : Int32), .int x8, .int (v5 + (1 : Int32)), .ref 32]) (Rn_S (pc := 150) (as := [.int x10, .int x11]) (rest := [.int (1 : Int32), .int x8, .int (v5 + (1 : Int32)), .ref 32]) (ctJ9_min_7cf53 σ x10 x11) ms_J9_min_7cf53 hw850 rfl ⟨Nat.le_of_ble_eq_true rfl, Nat.le_of_ble_eq_true rfl⟩ (Nat.le_of_ble_eq_true rfl) dX0_changesBetween_150 rfl) rfl (fun x12 => ?_)
      refine T_iadd (pc := 153) dX0_changesBetween_153 ?_
      refine T_callPi (pc := 154) (rest := [.int (v5 + (1 : Int32)), .ref 32]) (Rn_S (pc := 154) (as := [.int x8, .int ((1 : Int32) + x12)]) (rest := [.int (v5 + (1 : Int32)), .ref 32]) (ctJ9_min_7cf53 σ x8 ((1 : Int32) + x12)) ms_J9_min_7cf53 hw850 rfl ⟨Nat.le_of_ble_eq_true rfl, Nat.le_of_ble_eq_true rfl⟩ (Nat.le_of_ble_eq_true rfl) dX0_changesBetween_154 rfl) rfl (fun x13 => ?_)
      refine T_iast (pc := 157) rfl dX0_changesBetween_157 ?_
      refine T_letS (fun s14 => ?_)
      refine T_iinc (pc := 158) (y := 1) (lv' := [(0, .ref 6), (1, .int v1), (2, .int v2), (3, .int v3), (4, .int x9), (5, .int (v5 + (1 : Int32))), (6, .int x8)]) 5 dX0_changesBetween_158 (by decide) rfl (Nat.le_of_ble_eq_true rfl) rfl ?_
      refine T_goto (pc := 161) 80 dX0_changesBetween_161 (by decide) ?_
      refine T_pick (lv' := [(0, .ref 6), (1, .int v1), (2, .int v2), (3, .int v3), (4, .int x9), (5, .int (v5 + (1 : Int32)))]) [0, 1, 2, 3, 4, 5] rfl ?_
      exact hkb s14 x9 (v5 + (1 : Int32))
    · refine T_iconst (pc := 104) (v := 0) dX0_changesBetween_104 (by decide) ?_
      refine T_goto (pc := 105) 109 dX0_changesBetween_105 (by decide) ?_
      refine T_iadd (pc := 109) dX0_changesBetween_109 ?_
      refine T_letI (fun x15 => ?_)
      refine T_istore (pc := 110) (lv' := [(0, .ref 6), (1, .int v1), (2, .int v2), (3, .int v3), (4, .int v4), (5, .int v5), (6, .int x15)]) dX0_changesBetween_110 (Nat.le_of_ble_eq_true rfl) rfl ?_
      refine T_aload_n (pc := 112) 0 dX0_changesBetween_112 rfl rfl ?_
      refine T_getA (pc := 113) fd_6_3 hw189 dX0_changesBetween_113 ?_
      refine T_iload (pc := 116) 5 dX0_changesBetween_116 rfl ?_
      refine T_iconst (pc := 118) (v := 1) dX0_changesBetween_118 (by decide) ?_
      refine T_iadd (pc := 119) dX0_changesBetween_119 ?_
      refine T_iald (pc := 120) rfl dX0_changesBetween_120 (fun x16 => ?_)
      refine T_istore (pc := 121) (lv' := [(0, .ref 6), (1, .int v1), (2, .int v2), (3, .int v3), (4, .int x16), (5, .int v5), (6, .int x15)]) dX0_changesBetween_121 (Nat.le_of_ble_eq_true rfl) rfl ?_
      refine T_aload_n (pc := 123) 0 dX0_changesBetween_123 rfl rfl ?_
      refine T_getA (pc := 124) fd_6_3 hw189 dX0_changesBetween_124 ?_
      refine T_iload (pc := 127) 5 dX0_changesBetween_127 rfl ?_
      refine T_iconst (pc := 129) (v := 1) dX0_changesBetween_129 (by decide) ?_
      refine T_iadd (pc := 130) dX0_changesBetween_130 ?_
      refine T_iload (pc := 131) 6 dX0_changesBetween_131 rfl ?_
      refine T_iconst (pc := 133) (v := 1) dX0_changesBetween_133 (by decide) ?_
      refine T_aload_n (pc := 134) 0 dX0_changesBetween_134 rfl rfl ?_
      refine T_getA (pc := 135) fd_6_3 hw189 dX0_changesBetween_135 ?_
      refine T_iload (pc := 138) 5 dX0_changesBetween_138 rfl ?_
      refine T_iald (pc := 140) rfl dX0_changesBetween_140 (fun x17 => ?_)
      refine T_aload_n (pc := 141) 0 dX0_changesBetween_141 rfl rfl ?_
      refine T_getA (pc := 142) fd_6_3 hw189 dX0_changesBetween_142 ?_
      refine T_iload (pc := 145) 5 dX0_changesBetween_145 rfl ?_
      refine T_iconst (pc := 147) (v := 1) dX0_changesBetween_147 (by decide) ?_
      refine T_iadd (pc := 148) dX0_changesBetween_148 ?_
      refine T_iald (pc := 149) rfl dX0_changesBetween_149 (fun x18 => ?_)
      refine T_callPi (pc := 150) (rest := [.int (1 : Int32), .int x15, .int (v5 + (1 : Int32)), .ref 32]) (Rn_S (pc := 150) (as := [.int x17, .int x18]) (rest := [.int (1 : Int32), .int x15, .int (v5 + (1 : Int32)), .ref 32]) (ctJ9_min_7cf53 σ x17 x18) ms_J9_min_7cf53 hw850 rfl ⟨Nat.le_of_ble_eq_true rfl, Nat.le_of_ble_eq_true rfl⟩ (Nat.le_of_ble_eq_true rfl) dX0_changesBetween_150 rfl) rfl (fun x19 => ?_)
      refine T_iadd (pc := 153) dX0_changesBetween_153 ?_
      refine T_callPi (pc := 154) (rest := [.int (v5 + (1 : Int32)), .ref 32]) (Rn_S (pc := 154) (as := [.int x15, .int ((1 : Int32) + x19)]) (rest := [.int (v5 + (1 : Int32)), .ref 32]) (ctJ9_min_7cf53 σ x15 ((1 : Int32) + x19)) ms_J9_min_7cf53 hw850 rfl ⟨Nat.le_of_ble_eq_true rfl, Nat.le_of_ble_eq_true rfl⟩ (Nat.le_of_ble_eq_true rfl) dX0_changesBetween_154 rfl) rfl (fun x20 => ?_)
      refine T_iast (pc := 157) rfl dX0_changesBetween_157 ?_
      refine T_letS (fun s21 => ?_)
      refine T_iinc (pc := 158) (y := 1) (lv' := [(0, .ref 6), (1, .int v1), (2, .int v2), (3, .int v3), (4, .int x16), (5, .int (v5 + (1 : Int32))), (6, .int x15)]) 5 dX0_changesBetween_158 (by decide) rfl (Nat.le_of_ble_eq_true rfl) rfl ?_
      refine T_goto (pc := 161) 80 dX0_changesBetween_161 (by decide) ?_
      refine T_pick (lv' := [(0, .ref 6), (1, .int v1), (2, .int v2), (3, .int v3), (4, .int x16), (5, .int (v5 + (1 : Int32)))]) [0, 1, 2, 3, 4, 5] rfl ?_
      exact hkb s21 x16 (v5 + (1 : Int32))
set_option maxRecDepth 100000 in
set_option maxHeartbeats 4000000 in
theorem fX0_changesBetween_P80_T (v1 : Int32) (v2 : Int32) (v3 : Int32) (σ : St) {k1 : St → Option (Int32 × St)} (hk1 : ∀ (σ' : St), T kX0_changesBetween cSi σ' 164 [(0, .ref 6), (1, .int v1), (2, .int v2), (3, .int v3)] [] (k1 σ')) (v4 : Int32) (v5 : Int32) : T kX0_changesBetween cSi σ 80 [(0, .ref 6), (1, .int v1), (2, .int v2), (3, .int v3), (4, .int v4), (5, .int v5)] [] (fX0_changesBetween_P80 v1 v2 v3 k1 σ v4 v5) :=
  it_T (S := (fun t : St × Int32 × Int32 => t.1)) (lv := fun t : St × Int32 × Int32 => [(0, .ref 6), (1, .int v1), (2, .int v2), (3, .int v3), (4, .int t.2.1), (5, .int t.2.2)]) (st := fun _ => []) (fun kb hkb t => fX0_changesBetween_L80_T v1 v2 v3 (hk1 := hk1) (hkb := fun σ v4 v5 => hkb (σ, v4, v5)) t.1 t.2.1 t.2.2) FU (σ, v4, v5)
set_option maxRecDepth 100000 in
set_option maxHeartbeats 4000000 in
theorem fX0_changesBetween_L55_T (v1 : Int32) (v2 : Int32) (σ : St) {kb : St → Int32 → Option (Int32 × St)} (hkb : ∀ (σ' : St) (w3 : Int32), T kX0_changesBetween cSi σ' 55 [(0, .ref 6), (1, .int v1), (2, .int v2), (3, .int w3)] [] (kb σ' w3)) (v3 : Int32) : T kX0_changesBetween cSi σ 55 [(0, .ref 6), (1, .int v1), (2, .int v2), (3, .int v3)] [] (fX0_changesBetween_L55 v1 v2 kb σ v3) := by
  unfold fX0_changesBetween_L55
  refine T_iload_n (pc := 55) 3 dX0_changesBetween_55 rfl rfl ?_
  refine T_iload_n (pc := 56) 1 dX0_changesBetween_56 rfl rfl ?_
  refine T_icmp_ge (pc := 57) 170 dX0_changesBetween_57 (by decide) (fun _ => ?_) (fun _ => ?_)
  · refine T_aload_n (pc := 170) 0 dX0_changesBetween_170 rfl rfl ?_
    refine T_getA (pc := 171) fd_6_3 hw189 dX0_changesBetween_171 ?_
    refine T_iload_n (pc := 174) 2 dX0_changesBetween_174 rfl rfl ?_
    refine T_iald (pc := 175) rfl dX0_changesBetween_175 (fun x3 => ?_)
    exact T_ireturn (pc := 176) rfl dX0_changesBetween_176 rfl
  · refine T_aload_n (pc := 60) 0 dX0_changesBetween_60 rfl rfl ?_
    refine T_getA (pc := 61) fd_6_3 hw189 dX0_changesBetween_61 ?_
    refine T_iconst (pc := 64) (v := 0) dX0_changesBetween_64 (by decide) ?_
    refine T_iald (pc := 65) rfl dX0_changesBetween_65 (fun x4 => ?_)
    refine T_istore (pc := 66) (lv' := [(0, .ref 6), (1, .int v1), (2, .int v2), (3, .int v3), (4, .int x4)]) dX0_changesBetween_66 (Nat.le_of_ble_eq_true rfl) rfl ?_
    refine T_aload_n (pc := 68) 0 dX0_changesBetween_68 rfl rfl ?_
    refine T_getA (pc := 69) fd_6_3 hw189 dX0_changesBetween_69 ?_
    refine T_iconst (pc := 72) (v := 0) dX0_changesBetween_72 (by decide) ?_
    refine T_iload_n (pc := 73) 3 dX0_changesBetween_73 rfl rfl ?_
    refine T_iconst (pc := 74) (v := 1) dX0_changesBetween_74 (by decide) ?_
    refine T_iadd (pc := 75) dX0_changesBetween_75 ?_
    refine T_iast (pc := 76) rfl dX0_changesBetween_76 ?_
    refine T_letS (fun s5 => ?_)
    refine T_iconst (pc := 77) (v := 0) dX0_changesBetween_77 (by decide) ?_
    refine T_istore (pc := 78) (lv' := [(0, .ref 6), (1, .int v1), (2, .int v2), (3, .int v3), (4, .int x4), (5, .int (0 : Int32))]) dX0_changesBetween_78 (Nat.le_of_ble_eq_true rfl) rfl ?_
    refine fX0_changesBetween_P80_T v1 v2 v3 (hk1 := fun s22 => ?_) s5 x4 (0 : Int32)
    · refine T_iinc (pc := 164) (y := 1) (lv' := [(0, .ref 6), (1, .int v1), (2, .int v2), (3, .int (v3 + (1 : Int32)))]) 3 dX0_changesBetween_164 (by decide) rfl (Nat.le_of_ble_eq_true rfl) rfl ?_
      refine T_goto (pc := 167) 55 dX0_changesBetween_167 (by decide) ?_
      exact hkb s22 (v3 + (1 : Int32))
set_option maxRecDepth 100000 in
set_option maxHeartbeats 4000000 in
theorem fX0_changesBetween_P55_T (v1 : Int32) (v2 : Int32) (σ : St) (v3 : Int32) : T kX0_changesBetween cSi σ 55 [(0, .ref 6), (1, .int v1), (2, .int v2), (3, .int v3)] [] (fX0_changesBetween_P55 v1 v2 σ v3) :=
  it_T (S := (fun t : St × Int32 => t.1)) (lv := fun t : St × Int32 => [(0, .ref 6), (1, .int v1), (2, .int v2), (3, .int t.2)]) (st := fun _ => []) (fun kb hkb t => fX0_changesBetween_L55_T v1 v2 (hkb := fun σ v3 => hkb (σ, v3)) t.1 t.2) FU (σ, v3)
set_option maxRecDepth 100000 in
set_option maxHeartbeats 4000000 in
theorem ctX0_changesBetween (σ : St) (p0 : Int32) (p1 : Int32) : Ct yX0_changesBetween kX0_changesBetween [.ref 6, .int p0, .int p1] σ cSi (fX0_changesBetween σ p0 p1) := by
  refine Ct.of (by decide +kernel) rfl rfl (Nat.le_of_ble_eq_true rfl) ?_
  unfold fX0_changesBetween
  show T _ _ _ 0 [(0, .ref 6), (1, .int p0), (2, .int p1)] [] _
  refine T_iload_n (pc := 0) 1 dX0_changesBetween_0 rfl rfl ?_
  refine T_aload_n (pc := 1) 0 dX0_changesBetween_1 rfl rfl ?_
  refine T_getA (pc := 2) fd_6_1 hw187 dX0_changesBetween_2 ?_
  refine T_alen (pc := 5) (v := 18) rfl (by decide) dX0_changesBetween_5 ?_
  refine T_icmp_gt (pc := 6) 31 dX0_changesBetween_6 (by decide) (fun _ => ?_) (fun _ => ?_)
  · refine T_iconst (pc := 31) (v := 0) dX0_changesBetween_31 (by decide) ?_
    exact T_ireturn (pc := 32) rfl dX0_changesBetween_32 rfl
  · refine T_iload_n (pc := 9) 2 dX0_changesBetween_9 rfl rfl ?_
    refine T_aload_n (pc := 10) 0 dX0_changesBetween_10 rfl rfl ?_
    refine T_getA (pc := 11) fd_6_3 hw189 dX0_changesBetween_11 ?_
    refine T_alen (pc := 14) (v := 19) rfl (by decide) dX0_changesBetween_14 ?_
    refine T_icmp_ge (pc := 15) 31 dX0_changesBetween_15 (by decide) (fun _ => ?_) (fun _ => ?_)
    · refine T_iconst (pc := 31) (v := 0) dX0_changesBetween_31 (by decide) ?_
      exact T_ireturn (pc := 32) rfl dX0_changesBetween_32 rfl
    · refine T_iload_n (pc := 18) 2 dX0_changesBetween_18 rfl rfl ?_
      refine T_aload_n (pc := 19) 0 dX0_changesBetween_19 rfl rfl ?_
      refine T_getA (pc := 20) fd_6_2 hw188 dX0_changesBetween_20 ?_
      refine T_alen (pc := 23) (v := 18) rfl (by decide) dX0_changesBetween_23 ?_
      refine T_icmp_gt (pc := 24) 31 dX0_changesBetween_24 (by decide) (fun _ => ?_) (fun _ => ?_)
      · refine T_iconst (pc := 31) (v := 0) dX0_changesBetween_31 (by decide) ?_
        exact T_ireturn (pc := 32) rfl dX0_changesBetween_32 rfl
      · refine T_iload_n (pc := 27) 2 dX0_changesBetween_27 rfl rfl ?_
        refine T_if_ge (pc := 28) 33 dX0_changesBetween_28 (by decide) (fun _ => ?_) (fun _ => ?_)
        · refine T_iconst (pc := 33) (v := 0) dX0_changesBetween_33 (by decide) ?_
          refine T_istore_n (pc := 34) (lv' := [(0, .ref 6), (1, .int p0), (2, .int p1), (3, .int (0 : Int32))]) dX0_changesBetween_34 rfl (Nat.le_of_ble_eq_true rfl) rfl ?_
          refine fX0_changesBetween_P35_T p0 p1 (hk1 := fun s2 => ?_) σ (0 : Int32)
          · refine T_iconst (pc := 53) (v := 0) dX0_changesBetween_53 (by decide) ?_
            refine T_istore_n (pc := 54) (lv' := [(0, .ref 6), (1, .int p0), (2, .int p1), (3, .int (0 : Int32))]) dX0_changesBetween_54 rfl (Nat.le_of_ble_eq_true rfl) rfl ?_
            exact fX0_changesBetween_P55_T p0 p1 s2 (0 : Int32)
        · refine T_iconst (pc := 31) (v := 0) dX0_changesBetween_31 (by decide) ?_
          exact T_ireturn (pc := 32) rfl dX0_changesBetween_32 rfl
set_option maxRecDepth 100000 in
set_option maxHeartbeats 4000000 in
theorem ctX7_wordsOf (σ : St) (p0 : Int32) : Ct yX7_wordsOf kX7_wordsOf [.ref 5, .int p0] σ (cPi σ) (fX7_wordsOf σ p0) := by
  refine Ct.of (by decide +kernel) rfl rfl (Nat.le_of_ble_eq_true rfl) ?_
  unfold fX7_wordsOf
  show T _ _ _ 0 [(0, .ref 5), (1, .int p0)] [] _
  refine T_iload_n (pc := 0) 1 dX7_wordsOf_0 rfl rfl ?_
  refine T_if_lt (pc := 1) 22 dX7_wordsOf_1 (by decide) (fun _ => ?_) (fun _ => ?_)
  · refine T_iconst (pc := 22) (v := 0) dX7_wordsOf_22 (by decide) ?_
    exact T_ireturn (pc := 23) rfl dX7_wordsOf_23 rfl
  · refine T_iload_n (pc := 4) 1 dX7_wordsOf_4 rfl rfl ?_
    refine T_aload_n (pc := 5) 0 dX7_wordsOf_5 rfl rfl ?_
    refine T_getA (pc := 6) fd_5_4 hw151 dX7_wordsOf_6 ?_
    refine T_alen (pc := 9) (v := 128) rfl (by decide) dX7_wordsOf_9 ?_
    refine T_icmp_ge (pc := 10) 22 dX7_wordsOf_10 (by decide) (fun _ => ?_) (fun _ => ?_)
    · refine T_iconst (pc := 22) (v := 0) dX7_wordsOf_22 (by decide) ?_
      exact T_ireturn (pc := 23) rfl dX7_wordsOf_23 rfl
    · refine T_aload_n (pc := 13) 0 dX7_wordsOf_13 rfl rfl ?_
      refine T_getA (pc := 14) fd_5_4 hw151 dX7_wordsOf_14 ?_
      refine T_iload_n (pc := 17) 1 dX7_wordsOf_17 rfl rfl ?_
      refine T_iald (pc := 18) rfl dX7_wordsOf_18 (fun x1 => ?_)
      refine T_goto (pc := 19) 23 dX7_wordsOf_19 (by decide) ?_
      exact T_ireturn (pc := 23) rfl dX7_wordsOf_23 rfl
set_option maxRecDepth 100000 in
set_option maxHeartbeats 4000000 in
theorem ctX7_word (σ : St) (p0 : Int32) (p1 : Int32) : Ct yX7_word kX7_word [.ref 5, .int p0, .int p1] σ (cPl σ) (fX7_word σ p0 p1) := by
  refine Ct.of (by decide +kernel) rfl rfl (Nat.le_of_ble_eq_true rfl) ?_
  unfold fX7_word
  show T _ _ _ 0 [(0, .ref 5), (1, .int p0), (2, .int p1)] [] _
  refine T_iload_n (pc := 0) 1 dX7_word_0 rfl rfl ?_
  refine T_if_lt (pc := 1) 24 dX7_word_1 (by decide) (fun _ => ?_) (fun _ => ?_)
  · refine T_lconst (pc := 24) (v := 0) dX7_word_24 (by decide) ?_
    exact T_lreturn (pc := 25) rfl dX7_word_25 rfl
  · refine T_iload_n (pc := 4) 1 dX7_word_4 rfl rfl ?_
    refine T_sipush (pc := 5) (v := 128) dX7_word_5 (by decide) ?_
    refine T_icmp_ge (pc := 8) 24 dX7_word_8 (by decide) (fun _ => ?_) (fun _ => ?_)
    · refine T_lconst (pc := 24) (v := 0) dX7_word_24 (by decide) ?_
      exact T_lreturn (pc := 25) rfl dX7_word_25 rfl
    · refine T_iload_n (pc := 11) 2 dX7_word_11 rfl rfl ?_
      refine T_if_lt (pc := 12) 24 dX7_word_12 (by decide) (fun _ => ?_) (fun _ => ?_)
      · refine T_lconst (pc := 24) (v := 0) dX7_word_24 (by decide) ?_
        exact T_lreturn (pc := 25) rfl dX7_word_25 rfl
      · refine T_iload_n (pc := 15) 2 dX7_word_15 rfl rfl ?_
        refine T_aload_n (pc := 16) 0 dX7_word_16 rfl rfl ?_
        refine T_iload_n (pc := 17) 1 dX7_word_17 rfl rfl ?_
        refine T_callPi (pc := 18) (rest := [.int p1]) (Rn_V (pc := 18) (as := [.int p0]) (rest := [.int p1]) (ctX7_wordsOf σ p0) rfl rfl mv_X7_wordsOf hw822 rfl ⟨Nat.le_of_ble_eq_true rfl, Nat.le_of_ble_eq_true rfl⟩ (Nat.le_of_ble_eq_true rfl) dX7_word_18 rfl) rfl (fun x1 => ?_)
        refine T_icmp_lt (pc := 21) 26 dX7_word_21 (by decide) (fun _ => ?_) (fun _ => ?_)
        · refine T_bipush (pc := 26) (v := 12) dX7_word_26 (by decide) ?_
          refine T_iload_n (pc := 28) 1 dX7_word_28 rfl rfl ?_
          refine T_imul (pc := 29) dX7_word_29 ?_
          refine T_iload_n (pc := 30) 2 dX7_word_30 rfl rfl ?_
          refine T_iadd (pc := 31) dX7_word_31 ?_
          refine T_letI (fun x2 => ?_)
          refine T_istore_n (pc := 32) (lv' := [(0, .ref 5), (1, .int p0), (2, .int p1), (3, .int x2)]) dX7_word_32 rfl (Nat.le_of_ble_eq_true rfl) rfl ?_
          refine T_iload_n (pc := 33) 3 dX7_word_33 rfl rfl ?_
          refine T_aload_n (pc := 34) 0 dX7_word_34 rfl rfl ?_
          refine T_getA (pc := 35) fd_5_5 hw152 dX7_word_35 ?_
          refine T_alenL (pc := 38) (v := 1536) rfl (by decide) dX7_word_38 ?_
          refine T_icmp_ge (pc := 39) 51 dX7_word_39 (by decide) (fun _ => ?_) (fun _ => ?_)
          · refine T_lconst (pc := 51) (v := 0) dX7_word_51 (by decide) ?_
            exact T_lreturn (pc := 52) rfl dX7_word_52 rfl
          · refine T_aload_n (pc := 42) 0 dX7_word_42 rfl rfl ?_
            refine T_getA (pc := 43) fd_5_5 hw152 dX7_word_43 ?_
            refine T_iload_n (pc := 46) 3 dX7_word_46 rfl rfl ?_
            refine T_lald (pc := 47) rfl dX7_word_47 (fun x3 => ?_)
            refine T_goto (pc := 48) 52 dX7_word_48 (by decide) ?_
            exact T_lreturn (pc := 52) rfl dX7_word_52 rfl
        · refine T_lconst (pc := 24) (v := 0) dX7_word_24 (by decide) ?_
          exact T_lreturn (pc := 25) rfl dX7_word_25 rfl
set_option maxRecDepth 100000 in
set_option maxHeartbeats 4000000 in
theorem fX0_closes_L35_T (v1 : Int32) (v2 : Int32) (v3 : Int32) (v4 : Int32) (σ : St) {kb : Int32 → Option Bool} (hkb : ∀ (w5 : Int32), T kX0_closes (cPz σ) σ 35 [(0, .ref 6), (1, .int v1), (2, .int v2), (3, .int v3), (4, .int v4), (5, .int w5)] [] (kb w5)) (v5 : Int32) : T kX0_closes (cPz σ) σ 35 [(0, .ref 6), (1, .int v1), (2, .int v2), (3, .int v3), (4, .int v4), (5, .int v5)] [] (fX0_closes_L35 v1 v2 v3 v4 kb σ v5) := by
  unfold fX0_closes_L35
  refine T_iload (pc := 35) 5 dX0_closes_35 rfl ?_
  refine T_iload_n (pc := 37) 3 dX0_closes_37 rfl rfl ?_
  refine T_icmp_ge (pc := 38) 76 dX0_closes_38 (by decide) (fun _ => ?_) (fun _ => ?_)
  · refine T_iconst (pc := 76) (v := 1) dX0_closes_76 (by decide) ?_
    exact T_zreturn (pc := 77) true rfl dX0_closes_77 rfl rfl
  · refine T_aload_n (pc := 41) 0 dX0_closes_41 rfl rfl ?_
    refine T_getA (pc := 42) fd_6_0 hw186 dX0_closes_42 ?_
    refine T_iload_n (pc := 45) 1 dX0_closes_45 rfl rfl ?_
    refine T_iload (pc := 46) 5 dX0_closes_46 rfl ?_
    refine T_callPl (pc := 48) (rest := []) (Rn_V (pc := 48) (as := [.int v1, .int v5]) (rest := []) (ctX7_cueWord σ v1 v5) rfl rfl mv_X7_cueWord hw813 rfl ⟨Nat.le_of_ble_eq_true rfl, Nat.le_of_ble_eq_true rfl⟩ (Nat.le_of_ble_eq_true rfl) dX0_closes_48 rfl) rfl (fun x4 => ?_)
    refine T_aload_n (pc := 51) 0 dX0_closes_51 rfl rfl ?_
    refine T_getA (pc := 52) fd_6_0 hw186 dX0_closes_52 ?_
    refine T_iload_n (pc := 55) 2 dX0_closes_55 rfl rfl ?_
    refine T_iload (pc := 56) 4 dX0_closes_56 rfl ?_
    refine T_iload (pc := 58) 5 dX0_closes_58 rfl ?_
    refine T_iadd (pc := 60) dX0_closes_60 ?_
    refine T_callPl (pc := 61) (rest := [.long x4]) (Rn_V (pc := 61) (as := [.int v2, .int (v4 + v5)]) (rest := [.long x4]) (ctX7_word σ v2 (v4 + v5)) rfl rfl mv_X7_word hw818 rfl ⟨Nat.le_of_ble_eq_true rfl, Nat.le_of_ble_eq_true rfl⟩ (Nat.le_of_ble_eq_true rfl) dX0_closes_61 rfl) rfl (fun x5 => ?_)
    refine T_lcmp (pc := 64) dX0_closes_64 ?_
    refine T_if_eq (pc := 65) 70 dX0_closes_65 (by decide) (fun _ => ?_) (fun _ => ?_)
    · refine T_iinc (pc := 70) (y := 1) (lv' := [(0, .ref 6), (1, .int v1), (2, .int v2), (3, .int v3), (4, .int v4), (5, .int (v5 + (1 : Int32)))]) 5 dX0_closes_70 (by decide) rfl (Nat.le_of_ble_eq_true rfl) rfl ?_
      refine T_goto (pc := 73) 35 dX0_closes_73 (by decide) ?_
      exact hkb (v5 + (1 : Int32))
    · refine T_iconst (pc := 68) (v := 0) dX0_closes_68 (by decide) ?_
      exact T_zreturn (pc := 69) false rfl dX0_closes_69 rfl rfl
set_option maxRecDepth 100000 in
set_option maxHeartbeats 4000000 in
theorem fX0_closes_P35_T (v1 : Int32) (v2 : Int32) (v3 : Int32) (v4 : Int32) (σ : St) (v5 : Int32) : T kX0_closes (cPz σ) σ 35 [(0, .ref 6), (1, .int v1), (2, .int v2), (3, .int v3), (4, .int v4), (5, .int v5)] [] (fX0_closes_P35 v1 v2 v3 v4 σ v5) :=
  it_T (S := (fun _ : Int32 => σ)) (lv := fun t : Int32 => [(0, .ref 6), (1, .int v1), (2, .int v2), (3, .int v3), (4, .int v4), (5, .int t)]) (st := fun _ => []) (fun kb hkb t => fX0_closes_L35_T v1 v2 v3 v4 (hkb := fun v5 => hkb v5) σ t) FU v5
set_option maxRecDepth 100000 in
set_option maxHeartbeats 4000000 in
theorem ctX0_closes (σ : St) (p0 : Int32) (p1 : Int32) : Ct yX0_closes kX0_closes [.ref 6, .int p0, .int p1] σ (cPz σ) (fX0_closes σ p0 p1) := by
  refine Ct.of (by decide +kernel) rfl rfl (Nat.le_of_ble_eq_true rfl) ?_
  unfold fX0_closes
  show T _ _ _ 0 [(0, .ref 6), (1, .int p0), (2, .int p1)] [] _
  refine T_aload_n (pc := 0) 0 dX0_closes_0 rfl rfl ?_
  refine T_getA (pc := 1) fd_6_0 hw186 dX0_closes_1 ?_
  refine T_iload_n (pc := 4) 1 dX0_closes_4 rfl rfl ?_
  refine T_callPi (pc := 5) (rest := []) (Rn_V (pc := 5) (as := [.int p0]) (rest := []) (ctX7_cueWordsOf σ p0) rfl rfl mv_X7_cueWordsOf hw805 rfl ⟨Nat.le_of_ble_eq_true rfl, Nat.le_of_ble_eq_true rfl⟩ (Nat.le_of_ble_eq_true rfl) dX0_closes_5 rfl) rfl (fun x1 => ?_)
  refine T_istore_n (pc := 8) (lv' := [(0, .ref 6), (1, .int p0), (2, .int p1), (3, .int x1)]) dX0_closes_8 rfl (Nat.le_of_ble_eq_true rfl) rfl ?_
  refine T_aload_n (pc := 9) 0 dX0_closes_9 rfl rfl ?_
  refine T_getA (pc := 10) fd_6_0 hw186 dX0_closes_10 ?_
  refine T_iload_n (pc := 13) 2 dX0_closes_13 rfl rfl ?_
  refine T_callPi (pc := 14) (rest := []) (Rn_V (pc := 14) (as := [.int p1]) (rest := []) (ctX7_wordsOf σ p1) rfl rfl mv_X7_wordsOf hw809 rfl ⟨Nat.le_of_ble_eq_true rfl, Nat.le_of_ble_eq_true rfl⟩ (Nat.le_of_ble_eq_true rfl) dX0_closes_14 rfl) rfl (fun x2 => ?_)
  refine T_iload_n (pc := 17) 3 dX0_closes_17 rfl rfl ?_
  refine T_isub (pc := 18) dX0_closes_18 ?_
  refine T_letI (fun x3 => ?_)
  refine T_istore (pc := 19) (lv' := [(0, .ref 6), (1, .int p0), (2, .int p1), (3, .int x1), (4, .int x3)]) dX0_closes_19 (Nat.le_of_ble_eq_true rfl) rfl ?_
  refine T_iload_n (pc := 21) 3 dX0_closes_21 rfl rfl ?_
  refine T_if_eq (pc := 22) 30 dX0_closes_22 (by decide) (fun _ => ?_) (fun _ => ?_)
  · refine T_iconst (pc := 30) (v := 0) dX0_closes_30 (by decide) ?_
    exact T_zreturn (pc := 31) false rfl dX0_closes_31 rfl rfl
  · refine T_iload (pc := 25) 4 dX0_closes_25 rfl ?_
    refine T_if_ge (pc := 27) 32 dX0_closes_27 (by decide) (fun _ => ?_) (fun _ => ?_)
    · refine T_iconst (pc := 32) (v := 0) dX0_closes_32 (by decide) ?_
      refine T_istore (pc := 33) (lv' := [(0, .ref 6), (1, .int p0), (2, .int p1), (3, .int x1), (4, .int x3), (5, .int (0 : Int32))]) dX0_closes_33 (Nat.le_of_ble_eq_true rfl) rfl ?_
      exact fX0_closes_P35_T p0 p1 x1 x3 σ (0 : Int32)
    · refine T_iconst (pc := 30) (v := 0) dX0_closes_30 (by decide) ?_
      exact T_zreturn (pc := 31) false rfl dX0_closes_31 rfl rfl
set_option maxRecDepth 100000 in
set_option maxHeartbeats 4000000 in
theorem fX10_letters_L4_T (v0 : Int64) (σ : St) {kb : Int32 → Int32 → Option Int32} (hkb : ∀ (w2 : Int32) (w3 : Int32), T kX10_letters (cPi σ) σ 4 [(0, .long v0), (2, .int w2), (3, .int w3)] [] (kb w2 w3)) (v2 : Int32) (v3 : Int32) : T kX10_letters (cPi σ) σ 4 [(0, .long v0), (2, .int v2), (3, .int v3)] [] (fX10_letters_L4 v0 kb v2 v3) := by
  unfold fX10_letters_L4
  refine T_iload_n (pc := 4) 2 dX10_letters_4 rfl rfl ?_
  refine T_bipush (pc := 5) (v := 8) dX10_letters_5 (by decide) ?_
  refine T_icmp_ge (pc := 7) 29 dX10_letters_7 (by decide) (fun _ => ?_) (fun _ => ?_)
  · refine T_iload_n (pc := 29) 1 dX10_letters_29 rfl rfl ?_
    exact T_ireturn (pc := 30) rfl dX10_letters_30 rfl
  · refine T_lload_n (pc := 10) 0 dX10_letters_10 rfl rfl ?_
    refine T_iconst (pc := 11) (v := 5) dX10_letters_11 (by decide) ?_
    refine T_iload_n (pc := 12) 2 dX10_letters_12 rfl rfl ?_
    refine T_imul (pc := 13) dX10_letters_13 ?_
    refine T_lushr (pc := 14) dX10_letters_14 ?_
    refine T_lconst (pc := 15) (v := 0) dX10_letters_15 (by decide) ?_
    refine T_lcmp (pc := 16) dX10_letters_16 ?_
    refine T_if_eq (pc := 17) 29 dX10_letters_17 (by decide) (fun _ => ?_) (fun _ => ?_)
    · refine T_iload_n (pc := 29) 1 dX10_letters_29 rfl rfl ?_
      exact T_ireturn (pc := 30) rfl dX10_letters_30 rfl
    · refine T_iinc (pc := 20) (y := 1) (lv' := [(0, .long v0), (2, .int (v2 + (1 : Int32))), (3, .int v3)]) 1 dX10_letters_20 (by decide) rfl (Nat.le_of_ble_eq_true rfl) rfl ?_
      refine T_iinc (pc := 23) (y := 1) (lv' := [(0, .long v0), (2, .int (v2 + (1 : Int32))), (3, .int (v3 + (1 : Int32)))]) 2 dX10_letters_23 (by decide) rfl (Nat.le_of_ble_eq_true rfl) rfl ?_
      refine T_goto (pc := 26) 4 dX10_letters_26 (by decide) ?_
      exact hkb (v2 + (1 : Int32)) (v3 + (1 : Int32))
set_option maxRecDepth 100000 in
set_option maxHeartbeats 4000000 in
theorem fX10_letters_P4_T (v0 : Int64) (σ : St) (v2 : Int32) (v3 : Int32) : T kX10_letters (cPi σ) σ 4 [(0, .long v0), (2, .int v2), (3, .int v3)] [] (fX10_letters_P4 v0 v2 v3) :=
  it_T (S := (fun _ : Int32 × Int32 => σ)) (lv := fun t : Int32 × Int32 => [(0, .long v0), (2, .int t.1), (3, .int t.2)]) (st := fun _ => []) (fun kb hkb t => fX10_letters_L4_T v0 (hkb := fun v2 v3 => hkb (v2, v3)) σ t.1 t.2) FU (v2, v3)
set_option maxRecDepth 100000 in
set_option maxHeartbeats 4000000 in
theorem ctX10_letters (σ : St) (p0 : Int64) : Ct yX10_letters kX10_letters [.long p0] σ (cPi σ) (fX10_letters p0) := by
  refine Ct.of (by decide +kernel) rfl rfl (Nat.le_of_ble_eq_true rfl) ?_
  unfold fX10_letters
  show T _ _ _ 0 [(0, .long p0)] [] _
  refine T_iconst (pc := 0) (v := 0) dX10_letters_0 (by decide) ?_
  refine T_istore_n (pc := 1) (lv' := [(0, .long p0), (2, .int (0 : Int32))]) dX10_letters_1 rfl (Nat.le_of_ble_eq_true rfl) rfl ?_
  refine T_iconst (pc := 2) (v := 0) dX10_letters_2 (by decide) ?_
  refine T_istore_n (pc := 3) (lv' := [(0, .long p0), (2, .int (0 : Int32)), (3, .int (0 : Int32))]) dX10_letters_3 rfl (Nat.le_of_ble_eq_true rfl) rfl ?_
  exact fX10_letters_P4_T p0 σ (0 : Int32) (0 : Int32)
set_option maxRecDepth 100000 in
set_option maxHeartbeats 4000000 in
theorem ctX10_letter (σ : St) (p0 : Int64) (p1 : Int32) : Ct yX10_letter kX10_letter [.long p0, .int p1] σ (cPi σ) (fX10_letter p0 p1) := by
  refine Ct.of (by decide +kernel) rfl rfl (Nat.le_of_ble_eq_true rfl) ?_
  unfold fX10_letter
  show T _ _ _ 0 [(0, .long p0), (2, .int p1)] [] _
  refine T_lload_n (pc := 0) 0 dX10_letter_0 rfl rfl ?_
  refine T_iconst (pc := 1) (v := 5) dX10_letter_1 (by decide) ?_
  refine T_iload_n (pc := 2) 1 dX10_letter_2 rfl rfl ?_
  refine T_imul (pc := 3) dX10_letter_3 ?_
  refine T_lushr (pc := 4) dX10_letter_4 ?_
  refine T_l2i (pc := 5) dX10_letter_5 ?_
  refine T_bipush (pc := 6) (v := 31) dX10_letter_6 (by decide) ?_
  refine T_iand (pc := 8) dX10_letter_8 ?_
  exact T_ireturn (pc := 9) rfl dX10_letter_9 rfl
set_option maxRecDepth 100000 in
set_option maxHeartbeats 4000000 in
theorem fX0_laid_30_L29_T (v2 : Int64) (σ : St) {kb : St → Int32 → Int32 → Option (Int32 × St)} (hkb : ∀ (σ' : St) (w4 : Int32) (w5 : Int32), T kX0_laid_30 cSi σ' 29 [(0, .ref 30), (2, .long v2), (4, .int w4), (5, .int w5)] [] (kb σ' w4 w5)) (v4 : Int32) (v5 : Int32) : T kX0_laid_30 cSi σ 29 [(0, .ref 30), (2, .long v2), (4, .int v4), (5, .int v5)] [] (fX0_laid_30_L29 v2 kb σ v4 v5) := by
  unfold fX0_laid_30_L29
  refine T_iload (pc := 29) 3 dX0_laid_29 rfl ?_
  refine T_if_lt (pc := 31) 65 dX0_laid_31 (by decide) (fun _ => ?_) (fun _ => ?_)
  · refine T_iload (pc := 65) 2 dX0_laid_65 rfl ?_
    exact T_ireturn (pc := 67) rfl dX0_laid_67 rfl
  · refine T_iload (pc := 34) 2 dX0_laid_34 rfl ?_
    refine T_if_lt (pc := 36) 59 dX0_laid_36 (by decide) (fun _ => ?_) (fun _ => ?_)
    · refine T_iinc (pc := 59) (y := -1) (lv' := [(0, .ref 30), (2, .long v2), (4, .int v4), (5, .int (v5 + (-1 : Int32)))]) 3 dX0_laid_59 (by decide) rfl (Nat.le_of_ble_eq_true rfl) rfl ?_
      refine T_goto (pc := 62) 29 dX0_laid_62 (by decide) ?_
      exact hkb σ v4 (v5 + (-1 : Int32))
    · refine T_iload (pc := 39) 2 dX0_laid_39 rfl ?_
      refine T_aload_n (pc := 41) 0 dX0_laid_41 rfl rfl ?_
      refine T_alen (pc := 42) (v := 18) rfl (by decide) dX0_laid_42 ?_
      refine T_icmp_ge (pc := 43) 59 dX0_laid_43 (by decide) (fun _ => ?_) (fun _ => ?_)
      · refine T_iinc (pc := 59) (y := -1) (lv' := [(0, .ref 30), (2, .long v2), (4, .int v4), (5, .int (v5 + (-1 : Int32)))]) 3 dX0_laid_59 (by decide) rfl (Nat.le_of_ble_eq_true rfl) rfl ?_
        refine T_goto (pc := 62) 29 dX0_laid_62 (by decide) ?_
        exact hkb σ v4 (v5 + (-1 : Int32))
      · refine T_aload_n (pc := 46) 0 dX0_laid_46 rfl rfl ?_
        refine T_iload (pc := 47) 2 dX0_laid_47 rfl ?_
        refine T_lload_n (pc := 49) 1 dX0_laid_49 rfl rfl ?_
        refine T_iload (pc := 50) 3 dX0_laid_50 rfl ?_
        refine T_callPi (pc := 52) (rest := [.int v4, .ref 30]) (Rn_S (pc := 52) (as := [.long v2, .int v5]) (rest := [.int v4, .ref 30]) (ctX10_letter σ v2 v5) ms_X10_letter hw842 rfl ⟨Nat.le_of_ble_eq_true rfl, Nat.le_of_ble_eq_true rfl⟩ (Nat.le_of_ble_eq_true rfl) dX0_laid_52 rfl) rfl (fun x3 => ?_)
        refine T_iast (pc := 55) rfl dX0_laid_55 ?_
        refine T_letS (fun s4 => ?_)
        refine T_iinc (pc := 56) (y := 1) (lv' := [(0, .ref 30), (2, .long v2), (4, .int (v4 + (1 : Int32))), (5, .int v5)]) 2 dX0_laid_56 (by decide) rfl (Nat.le_of_ble_eq_true rfl) rfl ?_
        refine T_iinc (pc := 59) (y := -1) (lv' := [(0, .ref 30), (2, .long v2), (4, .int (v4 + (1 : Int32))), (5, .int (v5 + (-1 : Int32)))]) 3 dX0_laid_59 (by decide) rfl (Nat.le_of_ble_eq_true rfl) rfl ?_
        refine T_goto (pc := 62) 29 dX0_laid_62 (by decide) ?_
        exact hkb s4 (v4 + (1 : Int32)) (v5 + (-1 : Int32))
set_option maxRecDepth 100000 in
set_option maxHeartbeats 4000000 in
theorem fX0_laid_30_P29_T (v2 : Int64) (σ : St) (v4 : Int32) (v5 : Int32) : T kX0_laid_30 cSi σ 29 [(0, .ref 30), (2, .long v2), (4, .int v4), (5, .int v5)] [] (fX0_laid_30_P29 v2 σ v4 v5) :=
  it_T (S := (fun t : St × Int32 × Int32 => t.1)) (lv := fun t : St × Int32 × Int32 => [(0, .ref 30), (2, .long v2), (4, .int t.2.1), (5, .int t.2.2)]) (st := fun _ => []) (fun kb hkb t => fX0_laid_30_L29_T v2 (hkb := fun σ v4 v5 => hkb (σ, v4, v5)) t.1 t.2.1 t.2.2) FU (σ, v4, v5)
set_option maxRecDepth 100000 in
set_option maxHeartbeats 4000000 in
theorem fX0_laid_30_J21_T (σ : St) (v2 : Int64) (v4 : Int32) : T kX0_laid_30 cSi σ 21 [(0, .ref 30), (2, .long v2), (4, .int v4)] [] (fX0_laid_30_J21 σ v2 v4) := by
  unfold fX0_laid_30_J21
  refine T_lload_n (pc := 21) 1 dX0_laid_21 rfl rfl ?_
  refine T_callPi (pc := 22) (rest := []) (Rn_S (pc := 22) (as := [.long v2]) (rest := []) (ctX10_letters σ v2) ms_X10_letters hw839 rfl ⟨Nat.le_of_ble_eq_true rfl, Nat.le_of_ble_eq_true rfl⟩ (Nat.le_of_ble_eq_true rfl) dX0_laid_22 rfl) rfl (fun x1 => ?_)
  refine T_iconst (pc := 25) (v := 1) dX0_laid_25 (by decide) ?_
  refine T_isub (pc := 26) dX0_laid_26 ?_
  refine T_letI (fun x2 => ?_)
  refine T_istore (pc := 27) (lv' := [(0, .ref 30), (2, .long v2), (4, .int v4), (5, .int x2)]) dX0_laid_27 (Nat.le_of_ble_eq_true rfl) rfl ?_
  exact fX0_laid_30_P29_T v2 σ v4 x2
set_option maxRecDepth 100000 in
set_option maxHeartbeats 4000000 in
theorem ctX0_laid_30 (σ : St) (p1 : Int32) (p2 : Int64) : Ct yX0_laid kX0_laid_30 [.ref 30, .int p1, .long p2] σ cSi (fX0_laid_30 σ p1 p2) := by
  refine Ct.of (by decide +kernel) rfl rfl (Nat.le_of_ble_eq_true rfl) ?_
  unfold fX0_laid_30
  show T _ _ _ 0 [(0, .ref 30), (1, .int p1), (2, .long p2)] [] _
  refine T_iload_n (pc := 0) 1 dX0_laid_0 rfl rfl ?_
  refine T_istore (pc := 1) (lv' := [(0, .ref 30), (1, .int p1), (2, .long p2), (4, .int p1)]) dX0_laid_1 (Nat.le_of_ble_eq_true rfl) rfl ?_
  refine T_iload_n (pc := 3) 1 dX0_laid_3 rfl rfl ?_
  refine T_if_le (pc := 4) 21 dX0_laid_4 (by decide) (fun _ => ?_) (fun _ => ?_)
  · refine T_pick (lv' := [(0, .ref 30), (2, .long p2), (4, .int p1)]) [0, 2, 3] rfl ?_
    exact fX0_laid_30_J21_T σ p2 p1
  · refine T_iload_n (pc := 7) 1 dX0_laid_7 rfl rfl ?_
    refine T_aload_n (pc := 8) 0 dX0_laid_8 rfl rfl ?_
    refine T_alen (pc := 9) (v := 18) rfl (by decide) dX0_laid_9 ?_
    refine T_icmp_ge (pc := 10) 21 dX0_laid_10 (by decide) (fun _ => ?_) (fun _ => ?_)
    · refine T_pick (lv' := [(0, .ref 30), (2, .long p2), (4, .int p1)]) [0, 2, 3] rfl ?_
      exact fX0_laid_30_J21_T σ p2 p1
    · refine T_aload_n (pc := 13) 0 dX0_laid_13 rfl rfl ?_
      refine T_iload (pc := 14) 3 dX0_laid_14 rfl ?_
      refine T_iconst (pc := 16) (v := 0) dX0_laid_16 (by decide) ?_
      refine T_iast (pc := 17) rfl dX0_laid_17 ?_
      refine T_letS (fun s5 => ?_)
      refine T_iinc (pc := 18) (y := 1) (lv' := [(0, .ref 30), (1, .int p1), (2, .long p2), (4, .int (p1 + (1 : Int32)))]) 3 dX0_laid_18 (by decide) rfl (Nat.le_of_ble_eq_true rfl) rfl ?_
      refine T_pick (lv' := [(0, .ref 30), (2, .long p2), (4, .int (p1 + (1 : Int32)))]) [0, 2, 3] rfl ?_
      exact fX0_laid_30_J21_T s5 p2 (p1 + (1 : Int32))
set_option maxRecDepth 100000 in
set_option maxHeartbeats 4000000 in
theorem ctJ9_max_7cf53 (σ : St) (p0 : Int32) (p1 : Int32) : Ct yJ9_max_7cf53 kJ9_max_7cf53 [.int p0, .int p1] σ (cPi σ) (fJ9_max_7cf53 p0 p1) := by
  refine Ct.ofJ (by decide +kernel) rfl rfl (Nat.le_of_ble_eq_true rfl) ?_
  unfold fJ9_max_7cf53
  show T _ _ _ 0 [(0, .int p0), (1, .int p1)] [] _
  refine T_iload_n (pc := 0) 0 dJ9_max_7cf53_0 rfl rfl ?_
  refine T_iload_n (pc := 1) 1 dJ9_max_7cf53_1 rfl rfl ?_
  refine T_icmp_lt (pc := 2) 9 dJ9_max_7cf53_2 (by decide) (fun _ => ?_) (fun _ => ?_)
  · refine T_iload_n (pc := 9) 1 dJ9_max_7cf53_9 rfl rfl ?_
    exact T_ireturn (pc := 10) rfl dJ9_max_7cf53_10 rfl
  · refine T_iload_n (pc := 5) 0 dJ9_max_7cf53_5 rfl rfl ?_
    refine T_goto (pc := 6) 10 dJ9_max_7cf53_6 (by decide) ?_
    exact T_ireturn (pc := 10) rfl dJ9_max_7cf53_10 rfl
set_option maxRecDepth 100000 in
set_option maxHeartbeats 4000000 in
theorem fX0_laid_31_L29_T (v2 : Int64) (σ : St) {kb : St → Int32 → Int32 → Option (Int32 × St)} (hkb : ∀ (σ' : St) (w4 : Int32) (w5 : Int32), T kX0_laid_31 cSi σ' 29 [(0, .ref 31), (2, .long v2), (4, .int w4), (5, .int w5)] [] (kb σ' w4 w5)) (v4 : Int32) (v5 : Int32) : T kX0_laid_31 cSi σ 29 [(0, .ref 31), (2, .long v2), (4, .int v4), (5, .int v5)] [] (fX0_laid_31_L29 v2 kb σ v4 v5) := by
  unfold fX0_laid_31_L29
  refine T_iload (pc := 29) 3 dX0_laid_29 rfl ?_
  refine T_if_lt (pc := 31) 65 dX0_laid_31 (by decide) (fun _ => ?_) (fun _ => ?_)
  · refine T_iload (pc := 65) 2 dX0_laid_65 rfl ?_
    exact T_ireturn (pc := 67) rfl dX0_laid_67 rfl
  · refine T_iload (pc := 34) 2 dX0_laid_34 rfl ?_
    refine T_if_lt (pc := 36) 59 dX0_laid_36 (by decide) (fun _ => ?_) (fun _ => ?_)
    · refine T_iinc (pc := 59) (y := -1) (lv' := [(0, .ref 31), (2, .long v2), (4, .int v4), (5, .int (v5 + (-1 : Int32)))]) 3 dX0_laid_59 (by decide) rfl (Nat.le_of_ble_eq_true rfl) rfl ?_
      refine T_goto (pc := 62) 29 dX0_laid_62 (by decide) ?_
      exact hkb σ v4 (v5 + (-1 : Int32))
    · refine T_iload (pc := 39) 2 dX0_laid_39 rfl ?_
      refine T_aload_n (pc := 41) 0 dX0_laid_41 rfl rfl ?_
      refine T_alen (pc := 42) (v := 18) rfl (by decide) dX0_laid_42 ?_
      refine T_icmp_ge (pc := 43) 59 dX0_laid_43 (by decide) (fun _ => ?_) (fun _ => ?_)
      · refine T_iinc (pc := 59) (y := -1) (lv' := [(0, .ref 31), (2, .long v2), (4, .int v4), (5, .int (v5 + (-1 : Int32)))]) 3 dX0_laid_59 (by decide) rfl (Nat.le_of_ble_eq_true rfl) rfl ?_
        refine T_goto (pc := 62) 29 dX0_laid_62 (by decide) ?_
        exact hkb σ v4 (v5 + (-1 : Int32))
      · refine T_aload_n (pc := 46) 0 dX0_laid_46 rfl rfl ?_
        refine T_iload (pc := 47) 2 dX0_laid_47 rfl ?_
        refine T_lload_n (pc := 49) 1 dX0_laid_49 rfl rfl ?_
        refine T_iload (pc := 50) 3 dX0_laid_50 rfl ?_
        refine T_callPi (pc := 52) (rest := [.int v4, .ref 31]) (Rn_S (pc := 52) (as := [.long v2, .int v5]) (rest := [.int v4, .ref 31]) (ctX10_letter σ v2 v5) ms_X10_letter hw842 rfl ⟨Nat.le_of_ble_eq_true rfl, Nat.le_of_ble_eq_true rfl⟩ (Nat.le_of_ble_eq_true rfl) dX0_laid_52 rfl) rfl (fun x3 => ?_)
        refine T_iast (pc := 55) rfl dX0_laid_55 ?_
        refine T_letS (fun s4 => ?_)
        refine T_iinc (pc := 56) (y := 1) (lv' := [(0, .ref 31), (2, .long v2), (4, .int (v4 + (1 : Int32))), (5, .int v5)]) 2 dX0_laid_56 (by decide) rfl (Nat.le_of_ble_eq_true rfl) rfl ?_
        refine T_iinc (pc := 59) (y := -1) (lv' := [(0, .ref 31), (2, .long v2), (4, .int (v4 + (1 : Int32))), (5, .int (v5 + (-1 : Int32)))]) 3 dX0_laid_59 (by decide) rfl (Nat.le_of_ble_eq_true rfl) rfl ?_
        refine T_goto (pc := 62) 29 dX0_laid_62 (by decide) ?_
        exact hkb s4 (v4 + (1 : Int32)) (v5 + (-1 : Int32))
set_option maxRecDepth 100000 in
set_option maxHeartbeats 4000000 in
theorem fX0_laid_31_P29_T (v2 : Int64) (σ : St) (v4 : Int32) (v5 : Int32) : T kX0_laid_31 cSi σ 29 [(0, .ref 31), (2, .long v2), (4, .int v4), (5, .int v5)] [] (fX0_laid_31_P29 v2 σ v4 v5) :=
  it_T (S := (fun t : St × Int32 × Int32 => t.1)) (lv := fun t : St × Int32 × Int32 => [(0, .ref 31), (2, .long v2), (4, .int t.2.1), (5, .int t.2.2)]) (st := fun _ => []) (fun kb hkb t => fX0_laid_31_L29_T v2 (hkb := fun σ v4 v5 => hkb (σ, v4, v5)) t.1 t.2.1 t.2.2) FU (σ, v4, v5)
set_option maxRecDepth 100000 in
set_option maxHeartbeats 4000000 in
theorem fX0_laid_31_J21_T (σ : St) (v2 : Int64) (v4 : Int32) : T kX0_laid_31 cSi σ 21 [(0, .ref 31), (2, .long v2), (4, .int v4)] [] (fX0_laid_31_J21 σ v2 v4) := by
  unfold fX0_laid_31_J21
  refine T_lload_n (pc := 21) 1 dX0_laid_21 rfl rfl ?_
  refine T_callPi (pc := 22) (rest := []) (Rn_S (pc := 22) (as := [.long v2]) (rest := []) (ctX10_letters σ v2) ms_X10_letters hw839 rfl ⟨Nat.le_of_ble_eq_true rfl, Nat.le_of_ble_eq_true rfl⟩ (Nat.le_of_ble_eq_true rfl) dX0_laid_22 rfl) rfl (fun x1 => ?_)
  refine T_iconst (pc := 25) (v := 1) dX0_laid_25 (by decide) ?_
  refine T_isub (pc := 26) dX0_laid_26 ?_
  refine T_letI (fun x2 => ?_)
  refine T_istore (pc := 27) (lv' := [(0, .ref 31), (2, .long v2), (4, .int v4), (5, .int x2)]) dX0_laid_27 (Nat.le_of_ble_eq_true rfl) rfl ?_
  exact fX0_laid_31_P29_T v2 σ v4 x2
set_option maxRecDepth 100000 in
set_option maxHeartbeats 4000000 in
theorem ctX0_laid_31 (σ : St) (p1 : Int32) (p2 : Int64) : Ct yX0_laid kX0_laid_31 [.ref 31, .int p1, .long p2] σ cSi (fX0_laid_31 σ p1 p2) := by
  refine Ct.of (by decide +kernel) rfl rfl (Nat.le_of_ble_eq_true rfl) ?_
  unfold fX0_laid_31
  show T _ _ _ 0 [(0, .ref 31), (1, .int p1), (2, .long p2)] [] _
  refine T_iload_n (pc := 0) 1 dX0_laid_0 rfl rfl ?_
  refine T_istore (pc := 1) (lv' := [(0, .ref 31), (1, .int p1), (2, .long p2), (4, .int p1)]) dX0_laid_1 (Nat.le_of_ble_eq_true rfl) rfl ?_
  refine T_iload_n (pc := 3) 1 dX0_laid_3 rfl rfl ?_
  refine T_if_le (pc := 4) 21 dX0_laid_4 (by decide) (fun _ => ?_) (fun _ => ?_)
  · refine T_pick (lv' := [(0, .ref 31), (2, .long p2), (4, .int p1)]) [0, 2, 3] rfl ?_
    exact fX0_laid_31_J21_T σ p2 p1
  · refine T_iload_n (pc := 7) 1 dX0_laid_7 rfl rfl ?_
    refine T_aload_n (pc := 8) 0 dX0_laid_8 rfl rfl ?_
    refine T_alen (pc := 9) (v := 18) rfl (by decide) dX0_laid_9 ?_
    refine T_icmp_ge (pc := 10) 21 dX0_laid_10 (by decide) (fun _ => ?_) (fun _ => ?_)
    · refine T_pick (lv' := [(0, .ref 31), (2, .long p2), (4, .int p1)]) [0, 2, 3] rfl ?_
      exact fX0_laid_31_J21_T σ p2 p1
    · refine T_aload_n (pc := 13) 0 dX0_laid_13 rfl rfl ?_
      refine T_iload (pc := 14) 3 dX0_laid_14 rfl ?_
      refine T_iconst (pc := 16) (v := 0) dX0_laid_16 (by decide) ?_
      refine T_iast (pc := 17) rfl dX0_laid_17 ?_
      refine T_letS (fun s5 => ?_)
      refine T_iinc (pc := 18) (y := 1) (lv' := [(0, .ref 31), (1, .int p1), (2, .long p2), (4, .int (p1 + (1 : Int32)))]) 3 dX0_laid_18 (by decide) rfl (Nat.le_of_ble_eq_true rfl) rfl ?_
      refine T_pick (lv' := [(0, .ref 31), (2, .long p2), (4, .int (p1 + (1 : Int32)))]) [0, 2, 3] rfl ?_
      exact fX0_laid_31_J21_T s5 p2 (p1 + (1 : Int32))
set_option maxRecDepth 100000 in
set_option maxHeartbeats 4000000 in
theorem fX0_distance_L15_T (v1 : Int32) (v2 : Int32) (v3 : Int32) (σ : St) {k1 : St → Int32 → Option (Int32 × St)} {kb : St → Int32 → Int32 → Option (Int32 × St)} (hk1 : ∀ (σ' : St) (w4 : Int32), T kX0_distance cSi σ' 48 [(0, .ref 6), (2, .int v2), (3, .int v3), (4, .int w4)] [] (k1 σ' w4)) (hkb : ∀ (σ' : St) (w4 : Int32) (w5 : Int32), T kX0_distance cSi σ' 15 [(0, .ref 6), (1, .int v1), (2, .int v2), (3, .int v3), (4, .int w4), (5, .int w5)] [] (kb σ' w4 w5)) (v4 : Int32) (v5 : Int32) : T kX0_distance cSi σ 15 [(0, .ref 6), (1, .int v1), (2, .int v2), (3, .int v3), (4, .int v4), (5, .int v5)] [] (fX0_distance_L15 v1 v2 v3 k1 kb σ v4 v5) := by
  unfold fX0_distance_L15
  refine T_iload (pc := 15) 5 dX0_distance_15 rfl ?_
  refine T_iload_n (pc := 17) 3 dX0_distance_17 rfl rfl ?_
  refine T_icmp_ge (pc := 18) 48 dX0_distance_18 (by decide) (fun _ => ?_) (fun _ => ?_)
  · refine T_pick (lv' := [(0, .ref 6), (2, .int v2), (3, .int v3), (4, .int v4)]) [0, 2, 3, 4] rfl ?_
    exact hk1 σ v4
  · refine T_aload_n (pc := 21) 0 dX0_distance_21 rfl rfl ?_
    refine T_getA (pc := 22) fd_6_1 hw187 dX0_distance_22 ?_
    refine T_iload (pc := 25) 4 dX0_distance_25 rfl ?_
    refine T_aload_n (pc := 27) 0 dX0_distance_27 rfl rfl ?_
    refine T_getA (pc := 28) fd_6_0 hw186 dX0_distance_28 ?_
    refine T_iload_n (pc := 31) 1 dX0_distance_31 rfl rfl ?_
    refine T_iload (pc := 32) 5 dX0_distance_32 rfl ?_
    refine T_callPl (pc := 34) (rest := [.int v4, .ref 30]) (Rn_V (pc := 34) (as := [.int v1, .int v5]) (rest := [.int v4, .ref 30]) (ctX7_cueWord σ v1 v5) rfl rfl mv_X7_cueWord hw813 rfl ⟨Nat.le_of_ble_eq_true rfl, Nat.le_of_ble_eq_true rfl⟩ (Nat.le_of_ble_eq_true rfl) dX0_distance_34 rfl) rfl (fun x2 => ?_)
    refine T_callSi (pc := 37) (rest := []) (Rn_S (pc := 37) (as := [.ref 30, .int v4, .long x2]) (rest := []) (ctX0_laid_30 σ v4 x2) ms_X0_laid hw836 rfl ⟨Nat.le_of_ble_eq_true rfl, Nat.le_of_ble_eq_true rfl⟩ (Nat.le_of_ble_eq_true rfl) dX0_distance_37 rfl) rfl (fun r3 => ?_)
    refine T_istore (pc := 40) (lv' := [(0, .ref 6), (1, .int v1), (2, .int v2), (3, .int v3), (4, .int r3.1), (5, .int v5)]) dX0_distance_40 (Nat.le_of_ble_eq_true rfl) rfl ?_
    refine T_iinc (pc := 42) (y := 1) (lv' := [(0, .ref 6), (1, .int v1), (2, .int v2), (3, .int v3), (4, .int r3.1), (5, .int (v5 + (1 : Int32)))]) 5 dX0_distance_42 (by decide) rfl (Nat.le_of_ble_eq_true rfl) rfl ?_
    refine T_goto (pc := 45) 15 dX0_distance_45 (by decide) ?_
    exact hkb r3.2 r3.1 (v5 + (1 : Int32))
set_option maxRecDepth 100000 in
set_option maxHeartbeats 4000000 in
theorem fX0_distance_P15_T (v1 : Int32) (v2 : Int32) (v3 : Int32) (σ : St) {k1 : St → Int32 → Option (Int32 × St)} (hk1 : ∀ (σ' : St) (w4 : Int32), T kX0_distance cSi σ' 48 [(0, .ref 6), (2, .int v2), (3, .int v3), (4, .int w4)] [] (k1 σ' w4)) (v4 : Int32) (v5 : Int32) : T kX0_distance cSi σ 15 [(0, .ref 6), (1, .int v1), (2, .int v2), (3, .int v3), (4, .int v4), (5, .int v5)] [] (fX0_distance_P15 v1 v2 v3 k1 σ v4 v5) :=
  it_T (S := (fun t : St × Int32 × Int32 => t.1)) (lv := fun t : St × Int32 × Int32 => [(0, .ref 6), (1, .int v1), (2, .int v2), (3, .int v3), (4, .int t.2.1), (5, .int t.2.2)]) (st := fun _ => []) (fun kb hkb t => fX0_distance_L15_T v1 v2 v3 (hk1 := hk1) (hkb := fun σ v4 v5 => hkb (σ, v4, v5)) t.1 t.2.1 t.2.2) FU (σ, v4, v5)
set_option maxRecDepth 100000 in
set_option maxHeartbeats 4000000 in
theorem fX0_distance_L71_T (v2 : Int32) (v4 : Int32) (v6 : Int32) (σ : St) {k1 : St → Int32 → Option (Int32 × St)} {kb : St → Int32 → Int32 → Option (Int32 × St)} (hk1 : ∀ (σ' : St) (w5 : Int32), T kX0_distance cSi σ' 105 [(0, .ref 6), (4, .int v4), (5, .int w5)] [] (k1 σ' w5)) (hkb : ∀ (σ' : St) (w5 : Int32) (w7 : Int32), T kX0_distance cSi σ' 71 [(0, .ref 6), (2, .int v2), (4, .int v4), (5, .int w5), (6, .int v6), (7, .int w7)] [] (kb σ' w5 w7)) (v5 : Int32) (v7 : Int32) : T kX0_distance cSi σ 71 [(0, .ref 6), (2, .int v2), (4, .int v4), (5, .int v5), (6, .int v6), (7, .int v7)] [] (fX0_distance_L71 v2 v4 v6 k1 kb σ v5 v7) := by
  unfold fX0_distance_L71
  refine T_iload (pc := 71) 5 dX0_distance_71 rfl ?_
  refine T_iload (pc := 73) 4 dX0_distance_73 rfl ?_
  refine T_icmp_ge (pc := 75) 105 dX0_distance_75 (by decide) (fun _ => ?_) (fun _ => ?_)
  · refine T_pick (lv' := [(0, .ref 6), (4, .int v4), (5, .int v5)]) [0, 2, 3] rfl ?_
    exact hk1 σ v5
  · refine T_aload_n (pc := 78) 0 dX0_distance_78 rfl rfl ?_
    refine T_getA (pc := 79) fd_6_2 hw188 dX0_distance_79 ?_
    refine T_iload (pc := 82) 3 dX0_distance_82 rfl ?_
    refine T_aload_n (pc := 84) 0 dX0_distance_84 rfl rfl ?_
    refine T_getA (pc := 85) fd_6_0 hw186 dX0_distance_85 ?_
    refine T_iload_n (pc := 88) 1 dX0_distance_88 rfl rfl ?_
    refine T_iload (pc := 89) 5 dX0_distance_89 rfl ?_
    refine T_callPl (pc := 91) (rest := [.int v5, .ref 31]) (Rn_V (pc := 91) (as := [.int v2, .int v7]) (rest := [.int v5, .ref 31]) (ctX7_word σ v2 v7) rfl rfl mv_X7_word hw818 rfl ⟨Nat.le_of_ble_eq_true rfl, Nat.le_of_ble_eq_true rfl⟩ (Nat.le_of_ble_eq_true rfl) dX0_distance_91 rfl) rfl (fun x8 => ?_)
    refine T_callSi (pc := 94) (rest := []) (Rn_S (pc := 94) (as := [.ref 31, .int v5, .long x8]) (rest := []) (ctX0_laid_31 σ v5 x8) ms_X0_laid hw836 rfl ⟨Nat.le_of_ble_eq_true rfl, Nat.le_of_ble_eq_true rfl⟩ (Nat.le_of_ble_eq_true rfl) dX0_distance_94 rfl) rfl (fun r9 => ?_)
    refine T_istore (pc := 97) (lv' := [(0, .ref 6), (2, .int v2), (4, .int v4), (5, .int r9.1), (6, .int v6), (7, .int v7)]) dX0_distance_97 (Nat.le_of_ble_eq_true rfl) rfl ?_
    refine T_iinc (pc := 99) (y := 1) (lv' := [(0, .ref 6), (2, .int v2), (4, .int v4), (5, .int r9.1), (6, .int v6), (7, .int (v7 + (1 : Int32)))]) 5 dX0_distance_99 (by decide) rfl (Nat.le_of_ble_eq_true rfl) rfl ?_
    refine T_goto (pc := 102) 71 dX0_distance_102 (by decide) ?_
    exact hkb r9.2 r9.1 (v7 + (1 : Int32))
set_option maxRecDepth 100000 in
set_option maxHeartbeats 4000000 in
theorem fX0_distance_P71_T (v2 : Int32) (v4 : Int32) (v6 : Int32) (σ : St) {k1 : St → Int32 → Option (Int32 × St)} (hk1 : ∀ (σ' : St) (w5 : Int32), T kX0_distance cSi σ' 105 [(0, .ref 6), (4, .int v4), (5, .int w5)] [] (k1 σ' w5)) (v5 : Int32) (v7 : Int32) : T kX0_distance cSi σ 71 [(0, .ref 6), (2, .int v2), (4, .int v4), (5, .int v5), (6, .int v6), (7, .int v7)] [] (fX0_distance_P71 v2 v4 v6 k1 σ v5 v7) :=
  it_T (S := (fun t : St × Int32 × Int32 => t.1)) (lv := fun t : St × Int32 × Int32 => [(0, .ref 6), (2, .int v2), (4, .int v4), (5, .int t.2.1), (6, .int v6), (7, .int t.2.2)]) (st := fun _ => []) (fun kb hkb t => fX0_distance_L71_T v2 v4 v6 (hk1 := hk1) (hkb := fun σ v5 v7 => hkb (σ, v5, v7)) t.1 t.2.1 t.2.2) FU (σ, v5, v7)
set_option maxRecDepth 100000 in
set_option maxHeartbeats 4000000 in
theorem ctX0_distance (σ : St) (p0 : Int32) (p1 : Int32) : Ct yX0_distance kX0_distance [.ref 6, .int p0, .int p1] σ cSi (fX0_distance σ p0 p1) := by
  refine Ct.of (by decide +kernel) rfl rfl (Nat.le_of_ble_eq_true rfl) ?_
  unfold fX0_distance
  show T _ _ _ 0 [(0, .ref 6), (1, .int p0), (2, .int p1)] [] _
  refine T_aload_n (pc := 0) 0 dX0_distance_0 rfl rfl ?_
  refine T_getA (pc := 1) fd_6_0 hw186 dX0_distance_1 ?_
  refine T_iload_n (pc := 4) 1 dX0_distance_4 rfl rfl ?_
  refine T_callPi (pc := 5) (rest := []) (Rn_V (pc := 5) (as := [.int p0]) (rest := []) (ctX7_cueWordsOf σ p0) rfl rfl mv_X7_cueWordsOf hw805 rfl ⟨Nat.le_of_ble_eq_true rfl, Nat.le_of_ble_eq_true rfl⟩ (Nat.le_of_ble_eq_true rfl) dX0_distance_5 rfl) rfl (fun x1 => ?_)
  refine T_istore_n (pc := 8) (lv' := [(0, .ref 6), (1, .int p0), (2, .int p1), (3, .int x1)]) dX0_distance_8 rfl (Nat.le_of_ble_eq_true rfl) rfl ?_
  refine T_iconst (pc := 9) (v := 0) dX0_distance_9 (by decide) ?_
  refine T_istore (pc := 10) (lv' := [(0, .ref 6), (1, .int p0), (2, .int p1), (3, .int x1), (4, .int (0 : Int32))]) dX0_distance_10 (Nat.le_of_ble_eq_true rfl) rfl ?_
  refine T_iconst (pc := 12) (v := 0) dX0_distance_12 (by decide) ?_
  refine T_istore (pc := 13) (lv' := [(0, .ref 6), (1, .int p0), (2, .int p1), (3, .int x1), (4, .int (0 : Int32)), (5, .int (0 : Int32))]) dX0_distance_13 (Nat.le_of_ble_eq_true rfl) rfl ?_
  refine fX0_distance_P15_T p0 p1 x1 (hk1 := fun s4 x5 => ?_) σ (0 : Int32) (0 : Int32)
  · refine T_iconst (pc := 48) (v := 0) dX0_distance_48 (by decide) ?_
    refine T_istore (pc := 49) (lv' := [(0, .ref 6), (2, .int p1), (3, .int x1), (4, .int x5), (5, .int (0 : Int32))]) dX0_distance_49 (Nat.le_of_ble_eq_true rfl) rfl ?_
    refine T_aload_n (pc := 51) 0 dX0_distance_51 rfl rfl ?_
    refine T_getA (pc := 52) fd_6_0 hw186 dX0_distance_52 ?_
    refine T_iload_n (pc := 55) 1 dX0_distance_55 rfl rfl ?_
    refine T_callPi (pc := 56) (rest := []) (Rn_V (pc := 56) (as := [.int p1]) (rest := []) (ctX7_wordsOf s4 p1) rfl rfl mv_X7_wordsOf hw809 rfl ⟨Nat.le_of_ble_eq_true rfl, Nat.le_of_ble_eq_true rfl⟩ (Nat.le_of_ble_eq_true rfl) dX0_distance_56 rfl) rfl (fun x6 => ?_)
    refine T_istore (pc := 59) (lv' := [(0, .ref 6), (2, .int p1), (3, .int x1), (4, .int x5), (5, .int (0 : Int32)), (6, .int x6)]) dX0_distance_59 (Nat.le_of_ble_eq_true rfl) rfl ?_
    refine T_iconst (pc := 61) (v := 0) dX0_distance_61 (by decide) ?_
    refine T_iload (pc := 62) 5 dX0_distance_62 rfl ?_
    refine T_iload_n (pc := 64) 2 dX0_distance_64 rfl rfl ?_
    refine T_isub (pc := 65) dX0_distance_65 ?_
    refine T_callPi (pc := 66) (rest := []) (Rn_S (pc := 66) (as := [.int (0 : Int32), .int (x6 - x1)]) (rest := []) (ctJ9_max_7cf53 s4 (0 : Int32) (x6 - x1)) ms_J9_max_7cf53 hw843 rfl ⟨Nat.le_of_ble_eq_true rfl, Nat.le_of_ble_eq_true rfl⟩ (Nat.le_of_ble_eq_true rfl) dX0_distance_66 rfl) rfl (fun x7 => ?_)
    refine T_istore (pc := 69) (lv' := [(0, .ref 6), (2, .int p1), (3, .int x1), (4, .int x5), (5, .int (0 : Int32)), (6, .int x6), (7, .int x7)]) dX0_distance_69 (Nat.le_of_ble_eq_true rfl) rfl ?_
    refine T_pick (lv' := [(0, .ref 6), (2, .int p1), (4, .int x5), (5, .int (0 : Int32)), (6, .int x6), (7, .int x7)]) [0, 1, 3, 4, 5, 6] rfl ?_
    refine fX0_distance_P71_T p1 x5 x6 (hk1 := fun s10 x11 => ?_) s4 (0 : Int32) x7
    · refine T_aload_n (pc := 105) 0 dX0_distance_105 rfl rfl ?_
      refine T_iload (pc := 106) 1 dX0_distance_106 rfl ?_
      refine T_iload (pc := 108) 2 dX0_distance_108 rfl ?_
      refine T_callSi (pc := 110) (rest := []) (Rn_V (pc := 110) (as := [.int x5, .int x11]) (rest := []) (ctX0_changesBetween s10 x5 x11) rfl rfl mv_X0_changesBetween hw846 rfl ⟨Nat.le_of_ble_eq_true rfl, Nat.le_of_ble_eq_true rfl⟩ (Nat.le_of_ble_eq_true rfl) dX0_distance_110 rfl) rfl (fun r12 => ?_)
      exact T_ireturn (pc := 113) rfl dX0_distance_113 rfl
set_option maxRecDepth 100000 in
set_option maxHeartbeats 4000000 in
theorem ctX7_speeches (σ : St) : Ct yX7_speeches kX7_speeches [.ref 5] σ (cPi σ) (fX7_speeches σ) := by
  refine Ct.of (by decide +kernel) rfl rfl (Nat.le_of_ble_eq_true rfl) ?_
  unfold fX7_speeches
  show T _ _ _ 0 [(0, .ref 5)] [] _
  refine T_aload_n (pc := 0) 0 dX7_speeches_0 rfl rfl ?_
  refine T_getI (pc := 1) fd_5_7 hw154 dX7_speeches_1 ?_
  exact T_ireturn (pc := 4) rfl dX7_speeches_4 rfl
set_option maxRecDepth 100000 in
set_option maxHeartbeats 4000000 in
theorem ctX7_speechAt (σ : St) (p0 : Int32) : Ct yX7_speechAt kX7_speechAt [.ref 5, .int p0] σ (cPi σ) (fX7_speechAt σ p0) := by
  refine Ct.of (by decide +kernel) rfl rfl (Nat.le_of_ble_eq_true rfl) ?_
  unfold fX7_speechAt
  show T _ _ _ 0 [(0, .ref 5), (1, .int p0)] [] _
  refine T_iload_n (pc := 0) 1 dX7_speechAt_0 rfl rfl ?_
  refine T_if_lt (pc := 1) 30 dX7_speechAt_1 (by decide) (fun _ => ?_) (fun _ => ?_)
  · refine T_iconst (pc := 30) (v := -1) dX7_speechAt_30 (by decide) ?_
    exact T_ireturn (pc := 31) rfl dX7_speechAt_31 rfl
  · refine T_iload_n (pc := 4) 1 dX7_speechAt_4 rfl rfl ?_
    refine T_aload_n (pc := 5) 0 dX7_speechAt_5 rfl rfl ?_
    refine T_getI (pc := 6) fd_5_7 hw154 dX7_speechAt_6 ?_
    refine T_icmp_ge (pc := 9) 30 dX7_speechAt_9 (by decide) (fun _ => ?_) (fun _ => ?_)
    · refine T_iconst (pc := 30) (v := -1) dX7_speechAt_30 (by decide) ?_
      exact T_ireturn (pc := 31) rfl dX7_speechAt_31 rfl
    · refine T_iload_n (pc := 12) 1 dX7_speechAt_12 rfl rfl ?_
      refine T_aload_n (pc := 13) 0 dX7_speechAt_13 rfl rfl ?_
      refine T_getA (pc := 14) fd_5_6 hw153 dX7_speechAt_14 ?_
      refine T_alen (pc := 17) (v := 96) rfl (by decide) dX7_speechAt_17 ?_
      refine T_icmp_ge (pc := 18) 30 dX7_speechAt_18 (by decide) (fun _ => ?_) (fun _ => ?_)
      · refine T_iconst (pc := 30) (v := -1) dX7_speechAt_30 (by decide) ?_
        exact T_ireturn (pc := 31) rfl dX7_speechAt_31 rfl
      · refine T_aload_n (pc := 21) 0 dX7_speechAt_21 rfl rfl ?_
        refine T_getA (pc := 22) fd_5_6 hw153 dX7_speechAt_22 ?_
        refine T_iload_n (pc := 25) 1 dX7_speechAt_25 rfl rfl ?_
        refine T_iald (pc := 26) rfl dX7_speechAt_26 (fun x1 => ?_)
        refine T_goto (pc := 27) 31 dX7_speechAt_27 (by decide) ?_
        exact T_ireturn (pc := 31) rfl dX7_speechAt_31 rfl
set_option maxRecDepth 100000 in
set_option maxHeartbeats 4000000 in
theorem ctX7_rollOf (σ : St) (p0 : Int32) : Ct yX7_rollOf kX7_rollOf [.int p0] σ (cPi σ) (fX7_rollOf p0) := by
  refine Ct.of (by decide +kernel) rfl rfl (Nat.le_of_ble_eq_true rfl) ?_
  unfold fX7_rollOf
  show T _ _ _ 0 [(0, .int p0)] [] _
  refine T_iload_n (pc := 0) 0 dX7_rollOf_0 rfl rfl ?_
  refine T_bipush (pc := 1) (v := 16) dX7_rollOf_1 (by decide) ?_
  refine T_idiv (pc := 3) dX7_rollOf_3 ?_
  exact T_ireturn (pc := 4) rfl dX7_rollOf_4 rfl
set_option maxRecDepth 100000 in
set_option maxHeartbeats 4000000 in
theorem ctX7_isIn (σ : St) (p0 : Int32) (p1 : Int32) : Ct yX7_isIn kX7_isIn [.int p0, .int p1] σ (cPz σ) (fX7_isIn p0 p1) := by
  refine Ct.of (by decide +kernel) rfl rfl (Nat.le_of_ble_eq_true rfl) ?_
  unfold fX7_isIn
  show T _ _ _ 0 [(0, .int p0), (1, .int p1)] [] _
  refine T_iload_n (pc := 0) 0 dX7_isIn_0 rfl rfl ?_
  refine T_if_lt (pc := 1) 22 dX7_isIn_1 (by decide) (fun _ => ?_) (fun _ => ?_)
  · refine T_iconst (pc := 22) (v := 0) dX7_isIn_22 (by decide) ?_
    exact T_zreturn (pc := 23) false rfl dX7_isIn_23 rfl rfl
  · refine T_iload_n (pc := 4) 0 dX7_isIn_4 rfl rfl ?_
    refine T_bipush (pc := 5) (v := 8) dX7_isIn_5 (by decide) ?_
    refine T_icmp_ge (pc := 7) 22 dX7_isIn_7 (by decide) (fun _ => ?_) (fun _ => ?_)
    · refine T_iconst (pc := 22) (v := 0) dX7_isIn_22 (by decide) ?_
      exact T_zreturn (pc := 23) false rfl dX7_isIn_23 rfl rfl
    · refine T_iload_n (pc := 10) 1 dX7_isIn_10 rfl rfl ?_
      refine T_iload_n (pc := 11) 0 dX7_isIn_11 rfl rfl ?_
      refine T_ishr (pc := 12) dX7_isIn_12 ?_
      refine T_iconst (pc := 13) (v := 1) dX7_isIn_13 (by decide) ?_
      refine T_iand (pc := 14) dX7_isIn_14 ?_
      refine T_if_eq (pc := 15) 22 dX7_isIn_15 (by decide) (fun _ => ?_) (fun _ => ?_)
      · refine T_iconst (pc := 22) (v := 0) dX7_isIn_22 (by decide) ?_
        exact T_zreturn (pc := 23) false rfl dX7_isIn_23 rfl rfl
      · refine T_iconst (pc := 18) (v := 1) dX7_isIn_18 (by decide) ?_
        refine T_goto (pc := 19) 23 dX7_isIn_19 (by decide) ?_
        exact T_zreturn (pc := 23) true rfl dX7_isIn_23 rfl rfl
set_option maxRecDepth 100000 in
set_option maxHeartbeats 4000000 in
theorem ctX7_isOf (σ : St) (p0 : Int32) (p1 : Int32) : Ct yX7_isOf kX7_isOf [.int p0, .int p1] σ (cPz σ) (fX7_isOf p0 p1) := by
  refine Ct.of (by decide +kernel) rfl rfl (Nat.le_of_ble_eq_true rfl) ?_
  unfold fX7_isOf
  show T _ _ _ 0 [(0, .int p0), (1, .int p1)] [] _
  refine T_iload_n (pc := 0) 0 dX7_isOf_0 rfl rfl ?_
  refine T_if_lt (pc := 1) 19 dX7_isOf_1 (by decide) (fun _ => ?_) (fun _ => ?_)
  · refine T_iconst (pc := 19) (v := 0) dX7_isOf_19 (by decide) ?_
    exact T_zreturn (pc := 20) false rfl dX7_isOf_20 rfl rfl
  · refine T_iload_n (pc := 4) 0 dX7_isOf_4 rfl rfl ?_
    refine T_callPi (pc := 5) (rest := []) (Rn_S (pc := 5) (as := [.int p0]) (rest := []) (ctX7_rollOf σ p0) ms_X7_rollOf hw798 rfl ⟨Nat.le_of_ble_eq_true rfl, Nat.le_of_ble_eq_true rfl⟩ (Nat.le_of_ble_eq_true rfl) dX7_isOf_5 rfl) rfl (fun x1 => ?_)
    refine T_iload_n (pc := 8) 1 dX7_isOf_8 rfl rfl ?_
    refine T_callPz (pc := 9) (rest := []) (Rn_S (pc := 9) (as := [.int x1, .int p1]) (rest := []) (ctX7_isIn σ x1 p1) ms_X7_isIn hw872 rfl ⟨Nat.le_of_ble_eq_true rfl, Nat.le_of_ble_eq_true rfl⟩ (Nat.le_of_ble_eq_true rfl) dX7_isOf_9 rfl) rfl (fun x2 => ?_)
    refine T_if_eq (pc := 12) 19 dX7_isOf_12 (by decide) (fun _ => ?_) (fun _ => ?_)
    · refine T_iconst (pc := 19) (v := 0) dX7_isOf_19 (by decide) ?_
      exact T_zreturn (pc := 20) false rfl dX7_isOf_20 rfl rfl
    · refine T_iconst (pc := 15) (v := 1) dX7_isOf_15 (by decide) ?_
      refine T_goto (pc := 16) 20 dX7_isOf_16 (by decide) ?_
      exact T_zreturn (pc := 20) true rfl dX7_isOf_20 rfl rfl
set_option maxRecDepth 100000 in
set_option maxHeartbeats 4000000 in
theorem fX0_metBy_L17_T (v1 : Int32) (v3 : Int32) (σ : St) {kb : Int32 → Int32 → Option Int32} (hkb : ∀ (w4 : Int32) (w5 : Int32), T kX0_metBy (cPi σ) σ 17 [(0, .ref 6), (1, .int v1), (3, .int v3), (4, .int w4), (5, .int w5)] [] (kb w4 w5)) (v4 : Int32) (v5 : Int32) : T kX0_metBy (cPi σ) σ 17 [(0, .ref 6), (1, .int v1), (3, .int v3), (4, .int v4), (5, .int v5)] [] (fX0_metBy_L17 v1 v3 kb σ v4 v5) := by
  unfold fX0_metBy_L17
  refine T_iload (pc := 17) 4 dX0_metBy_17 rfl ?_
  refine T_aload_n (pc := 19) 0 dX0_metBy_19 rfl rfl ?_
  refine T_getA (pc := 20) fd_6_0 hw186 dX0_metBy_20 ?_
  refine T_callPi (pc := 23) (rest := [.int v5]) (Rn_V (pc := 23) (as := []) (rest := [.int v5]) (ctX7_speeches σ) rfl rfl mv_X7_speeches hw884 rfl ⟨Nat.le_of_ble_eq_true rfl, Nat.le_of_ble_eq_true rfl⟩ (Nat.le_of_ble_eq_true rfl) dX0_metBy_23 rfl) rfl (fun x3 => ?_)
  refine T_icmp_ge (pc := 26) 68 dX0_metBy_26 (by decide) (fun _ => ?_) (fun _ => ?_)
  · refine T_iload (pc := 68) 3 dX0_metBy_68 rfl ?_
    exact T_ireturn (pc := 70) rfl dX0_metBy_70 rfl
  · refine T_aload_n (pc := 29) 0 dX0_metBy_29 rfl rfl ?_
    refine T_getA (pc := 30) fd_6_0 hw186 dX0_metBy_30 ?_
    refine T_iload (pc := 33) 4 dX0_metBy_33 rfl ?_
    refine T_callPi (pc := 35) (rest := []) (Rn_V (pc := 35) (as := [.int v5]) (rest := []) (ctX7_speechAt σ v5) rfl rfl mv_X7_speechAt hw888 rfl ⟨Nat.le_of_ble_eq_true rfl, Nat.le_of_ble_eq_true rfl⟩ (Nat.le_of_ble_eq_true rfl) dX0_metBy_35 rfl) rfl (fun x4 => ?_)
    refine T_istore (pc := 38) (lv' := [(0, .ref 6), (1, .int v1), (3, .int v3), (4, .int v4), (5, .int v5), (6, .int x4)]) dX0_metBy_38 (Nat.le_of_ble_eq_true rfl) rfl ?_
    refine T_iload (pc := 40) 5 dX0_metBy_40 rfl ?_
    refine T_iload_n (pc := 42) 2 dX0_metBy_42 rfl rfl ?_
    refine T_callPz (pc := 43) (rest := []) (Rn_S (pc := 43) (as := [.int x4, .int v3]) (rest := []) (ctX7_isOf σ x4 v3) ms_X7_isOf hw892 rfl ⟨Nat.le_of_ble_eq_true rfl, Nat.le_of_ble_eq_true rfl⟩ (Nat.le_of_ble_eq_true rfl) dX0_metBy_43 rfl) rfl (fun x5 => ?_)
    refine T_if_eq (pc := 46) 62 dX0_metBy_46 (by decide) (fun _ => ?_) (fun _ => ?_)
    · refine T_iinc (pc := 62) (y := 1) (lv' := [(0, .ref 6), (1, .int v1), (3, .int v3), (4, .int v4), (5, .int (v5 + (1 : Int32))), (6, .int x4)]) 4 dX0_metBy_62 (by decide) rfl (Nat.le_of_ble_eq_true rfl) rfl ?_
      refine T_goto (pc := 65) 17 dX0_metBy_65 (by decide) ?_
      refine T_pick (lv' := [(0, .ref 6), (1, .int v1), (3, .int v3), (4, .int v4), (5, .int (v5 + (1 : Int32)))]) [0, 1, 2, 3, 4] rfl ?_
      exact hkb v4 (v5 + (1 : Int32))
    · refine T_aload_n (pc := 49) 0 dX0_metBy_49 rfl rfl ?_
      refine T_iload_n (pc := 50) 1 dX0_metBy_50 rfl rfl ?_
      refine T_iload (pc := 51) 5 dX0_metBy_51 rfl ?_
      refine T_callPz (pc := 53) (rest := []) (Rn_V (pc := 53) (as := [.int v1, .int x4]) (rest := []) (ctX0_closes σ v1 x4) rfl rfl mv_X0_closes hw893 rfl ⟨Nat.le_of_ble_eq_true rfl, Nat.le_of_ble_eq_true rfl⟩ (Nat.le_of_ble_eq_true rfl) dX0_metBy_53 rfl) rfl (fun x6 => ?_)
      refine T_if_eq (pc := 56) 62 dX0_metBy_56 (by decide) (fun _ => ?_) (fun _ => ?_)
      · refine T_iinc (pc := 62) (y := 1) (lv' := [(0, .ref 6), (1, .int v1), (3, .int v3), (4, .int v4), (5, .int (v5 + (1 : Int32))), (6, .int x4)]) 4 dX0_metBy_62 (by decide) rfl (Nat.le_of_ble_eq_true rfl) rfl ?_
        refine T_goto (pc := 65) 17 dX0_metBy_65 (by decide) ?_
        refine T_pick (lv' := [(0, .ref 6), (1, .int v1), (3, .int v3), (4, .int v4), (5, .int (v5 + (1 : Int32)))]) [0, 1, 2, 3, 4] rfl ?_
        exact hkb v4 (v5 + (1 : Int32))
      · refine T_iinc (pc := 59) (y := 1) (lv' := [(0, .ref 6), (1, .int v1), (3, .int v3), (4, .int (v4 + (1 : Int32))), (5, .int v5), (6, .int x4)]) 3 dX0_metBy_59 (by decide) rfl (Nat.le_of_ble_eq_true rfl) rfl ?_
        refine T_iinc (pc := 62) (y := 1) (lv' := [(0, .ref 6), (1, .int v1), (3, .int v3), (4, .int (v4 + (1 : Int32))), (5, .int (v5 + (1 : Int32))), (6, .int x4)]) 4 dX0_metBy_62 (by decide) rfl (Nat.le_of_ble_eq_true rfl) rfl ?_
        refine T_goto (pc := 65) 17 dX0_metBy_65 (by decide) ?_
        refine T_pick (lv' := [(0, .ref 6), (1, .int v1), (3, .int v3), (4, .int (v4 + (1 : Int32))), (5, .int (v5 + (1 : Int32)))]) [0, 1, 2, 3, 4] rfl ?_
        exact hkb (v4 + (1 : Int32)) (v5 + (1 : Int32))
set_option maxRecDepth 100000 in
set_option maxHeartbeats 4000000 in
theorem fX0_metBy_P17_T (v1 : Int32) (v3 : Int32) (σ : St) (v4 : Int32) (v5 : Int32) : T kX0_metBy (cPi σ) σ 17 [(0, .ref 6), (1, .int v1), (3, .int v3), (4, .int v4), (5, .int v5)] [] (fX0_metBy_P17 v1 v3 σ v4 v5) :=
  it_T (S := (fun _ : Int32 × Int32 => σ)) (lv := fun t : Int32 × Int32 => [(0, .ref 6), (1, .int v1), (3, .int v3), (4, .int t.1), (5, .int t.2)]) (st := fun _ => []) (fun kb hkb t => fX0_metBy_L17_T v1 v3 (hkb := fun v4 v5 => hkb (v4, v5)) σ t.1 t.2) FU (v4, v5)
set_option maxRecDepth 100000 in
set_option maxHeartbeats 4000000 in
theorem ctX0_metBy (σ : St) (p0 : Int32) (p1 : Int32) : Ct yX0_metBy kX0_metBy [.ref 6, .int p0, .int p1] σ (cPi σ) (fX0_metBy σ p0 p1) := by
  refine Ct.of (by decide +kernel) rfl rfl (Nat.le_of_ble_eq_true rfl) ?_
  unfold fX0_metBy
  show T _ _ _ 0 [(0, .ref 6), (1, .int p0), (2, .int p1)] [] _
  refine T_iload_n (pc := 0) 2 dX0_metBy_0 rfl rfl ?_
  refine T_iconst (pc := 1) (v := 1) dX0_metBy_1 (by decide) ?_
  refine T_iload_n (pc := 2) 1 dX0_metBy_2 rfl rfl ?_
  refine T_callPi (pc := 3) (rest := [.int (1 : Int32), .int p1]) (Rn_S (pc := 3) (as := [.int p0]) (rest := [.int (1 : Int32), .int p1]) (ctX7_rollOf σ p0) ms_X7_rollOf hw883 rfl ⟨Nat.le_of_ble_eq_true rfl, Nat.le_of_ble_eq_true rfl⟩ (Nat.le_of_ble_eq_true rfl) dX0_metBy_3 rfl) rfl (fun x1 => ?_)
  refine T_ishl (pc := 6) dX0_metBy_6 ?_
  refine T_iconst (pc := 7) (v := -1) dX0_metBy_7 (by decide) ?_
  refine T_ixor (pc := 8) dX0_metBy_8 ?_
  refine T_iand (pc := 9) dX0_metBy_9 ?_
  refine T_letI (fun x2 => ?_)
  refine T_istore_n (pc := 10) (lv' := [(0, .ref 6), (1, .int p0), (2, .int p1), (3, .int x2)]) dX0_metBy_10 rfl (Nat.le_of_ble_eq_true rfl) rfl ?_
  refine T_iconst (pc := 11) (v := 0) dX0_metBy_11 (by decide) ?_
  refine T_istore (pc := 12) (lv' := [(0, .ref 6), (1, .int p0), (2, .int p1), (3, .int x2), (4, .int (0 : Int32))]) dX0_metBy_12 (Nat.le_of_ble_eq_true rfl) rfl ?_
  refine T_iconst (pc := 14) (v := 0) dX0_metBy_14 (by decide) ?_
  refine T_istore (pc := 15) (lv' := [(0, .ref 6), (1, .int p0), (2, .int p1), (3, .int x2), (4, .int (0 : Int32)), (5, .int (0 : Int32))]) dX0_metBy_15 (Nat.le_of_ble_eq_true rfl) rfl ?_
  refine T_pick (lv' := [(0, .ref 6), (1, .int p0), (3, .int x2), (4, .int (0 : Int32)), (5, .int (0 : Int32))]) [0, 1, 3, 4, 5] rfl ?_
  exact fX0_metBy_P17_T p0 x2 σ (0 : Int32) (0 : Int32)
set_option maxRecDepth 100000 in
set_option maxHeartbeats 4000000 in
theorem fX0_isOwn_L7_T (v1 : Int32) (σ : St) {kb : Int32 → Option Bool} (hkb : ∀ (w2 : Int32), T kX0_isOwn (cPz σ) σ 7 [(0, .ref 6), (1, .int v1), (2, .int w2)] [] (kb w2)) (v2 : Int32) : T kX0_isOwn (cPz σ) σ 7 [(0, .ref 6), (1, .int v1), (2, .int v2)] [] (fX0_isOwn_L7 v1 kb σ v2) := by
  unfold fX0_isOwn_L7
  refine T_iload_n (pc := 7) 2 dX0_isOwn_7 rfl rfl ?_
  refine T_iload_n (pc := 8) 1 dX0_isOwn_8 rfl rfl ?_
  refine T_icmp_ge (pc := 9) 29 dX0_isOwn_9 (by decide) (fun _ => ?_) (fun _ => ?_)
  · refine T_iconst (pc := 29) (v := 0) dX0_isOwn_29 (by decide) ?_
    exact T_zreturn (pc := 30) false rfl dX0_isOwn_30 rfl rfl
  · refine T_aload_n (pc := 12) 0 dX0_isOwn_12 rfl rfl ?_
    refine T_iload_n (pc := 13) 1 dX0_isOwn_13 rfl rfl ?_
    refine T_iload_n (pc := 14) 2 dX0_isOwn_14 rfl rfl ?_
    refine T_callPz (pc := 15) (rest := []) (Rn_V (pc := 15) (as := [.int v1, .int v2]) (rest := []) (ctX0_closes σ v1 v2) rfl rfl mv_X0_closes hw893 rfl ⟨Nat.le_of_ble_eq_true rfl, Nat.le_of_ble_eq_true rfl⟩ (Nat.le_of_ble_eq_true rfl) dX0_isOwn_15 rfl) rfl (fun x2 => ?_)
    refine T_if_eq (pc := 18) 23 dX0_isOwn_18 (by decide) (fun _ => ?_) (fun _ => ?_)
    · refine T_iinc (pc := 23) (y := 1) (lv' := [(0, .ref 6), (1, .int v1), (2, .int (v2 + (1 : Int32)))]) 2 dX0_isOwn_23 (by decide) rfl (Nat.le_of_ble_eq_true rfl) rfl ?_
      refine T_goto (pc := 26) 7 dX0_isOwn_26 (by decide) ?_
      exact hkb (v2 + (1 : Int32))
    · refine T_iconst (pc := 21) (v := 1) dX0_isOwn_21 (by decide) ?_
      exact T_zreturn (pc := 22) true rfl dX0_isOwn_22 rfl rfl
set_option maxRecDepth 100000 in
set_option maxHeartbeats 4000000 in
theorem fX0_isOwn_P7_T (v1 : Int32) (σ : St) (v2 : Int32) : T kX0_isOwn (cPz σ) σ 7 [(0, .ref 6), (1, .int v1), (2, .int v2)] [] (fX0_isOwn_P7 v1 σ v2) :=
  it_T (S := (fun _ : Int32 => σ)) (lv := fun t : Int32 => [(0, .ref 6), (1, .int v1), (2, .int t)]) (st := fun _ => []) (fun kb hkb t => fX0_isOwn_L7_T v1 (hkb := fun v2 => hkb v2) σ t) FU v2
set_option maxRecDepth 100000 in
set_option maxHeartbeats 4000000 in
theorem ctX0_isOwn (σ : St) (p0 : Int32) : Ct yX0_isOwn kX0_isOwn [.ref 6, .int p0] σ (cPz σ) (fX0_isOwn σ p0) := by
  refine Ct.of (by decide +kernel) rfl rfl (Nat.le_of_ble_eq_true rfl) ?_
  unfold fX0_isOwn
  show T _ _ _ 0 [(0, .ref 6), (1, .int p0)] [] _
  refine T_iload_n (pc := 0) 1 dX0_isOwn_0 rfl rfl ?_
  refine T_iload_n (pc := 1) 1 dX0_isOwn_1 rfl rfl ?_
  refine T_bipush (pc := 2) (v := 16) dX0_isOwn_2 (by decide) ?_
  refine T_irem (pc := 4) dX0_isOwn_4 ?_
  refine T_isub (pc := 5) dX0_isOwn_5 ?_
  refine T_letI (fun x1 => ?_)
  refine T_istore_n (pc := 6) (lv' := [(0, .ref 6), (1, .int p0), (2, .int x1)]) dX0_isOwn_6 rfl (Nat.le_of_ble_eq_true rfl) rfl ?_
  exact fX0_isOwn_P7_T p0 σ x1
set_option maxRecDepth 100000 in
set_option maxHeartbeats 4000000 in
theorem fX0_slips_L14_T (v1 : Int32) (v3 : Int32) (σ : St) {kb : St → Int32 → Option (Bool × St)} (hkb : ∀ (σ' : St) (w4 : Int32), T kX0_slips cSz σ' 14 [(0, .ref 6), (1, .int v1), (3, .int v3), (4, .int w4)] [] (kb σ' w4)) (v4 : Int32) : T kX0_slips cSz σ 14 [(0, .ref 6), (1, .int v1), (3, .int v3), (4, .int v4)] [] (fX0_slips_L14 v1 v3 kb σ v4) := by
  unfold fX0_slips_L14
  refine T_iload (pc := 14) 3 dX0_slips_14 rfl ?_
  refine T_aload_n (pc := 16) 0 dX0_slips_16 rfl rfl ?_
  refine T_getA (pc := 17) fd_6_0 hw186 dX0_slips_17 ?_
  refine T_callPi (pc := 20) (rest := [.int v4]) (Rn_V (pc := 20) (as := []) (rest := [.int v4]) (ctX7_speeches σ) rfl rfl mv_X7_speeches hw884 rfl ⟨Nat.le_of_ble_eq_true rfl, Nat.le_of_ble_eq_true rfl⟩ (Nat.le_of_ble_eq_true rfl) dX0_slips_20 rfl) rfl (fun x3 => ?_)
  refine T_icmp_ge (pc := 23) 68 dX0_slips_23 (by decide) (fun _ => ?_) (fun _ => ?_)
  · refine T_iconst (pc := 68) (v := 0) dX0_slips_68 (by decide) ?_
    exact T_zreturn (pc := 69) false rfl dX0_slips_69 rfl rfl
  · refine T_aload_n (pc := 26) 0 dX0_slips_26 rfl rfl ?_
    refine T_getA (pc := 27) fd_6_0 hw186 dX0_slips_27 ?_
    refine T_iload (pc := 30) 3 dX0_slips_30 rfl ?_
    refine T_callPi (pc := 32) (rest := []) (Rn_V (pc := 32) (as := [.int v4]) (rest := []) (ctX7_speechAt σ v4) rfl rfl mv_X7_speechAt hw888 rfl ⟨Nat.le_of_ble_eq_true rfl, Nat.le_of_ble_eq_true rfl⟩ (Nat.le_of_ble_eq_true rfl) dX0_slips_32 rfl) rfl (fun x4 => ?_)
    refine T_istore (pc := 35) (lv' := [(0, .ref 6), (1, .int v1), (3, .int v3), (4, .int v4), (5, .int x4)]) dX0_slips_35 (Nat.le_of_ble_eq_true rfl) rfl ?_
    refine T_iload (pc := 37) 4 dX0_slips_37 rfl ?_
    refine T_iload_n (pc := 39) 2 dX0_slips_39 rfl rfl ?_
    refine T_callPz (pc := 40) (rest := []) (Rn_S (pc := 40) (as := [.int x4, .int v3]) (rest := []) (ctX7_isOf σ x4 v3) ms_X7_isOf hw892 rfl ⟨Nat.le_of_ble_eq_true rfl, Nat.le_of_ble_eq_true rfl⟩ (Nat.le_of_ble_eq_true rfl) dX0_slips_40 rfl) rfl (fun x5 => ?_)
    refine T_if_eq (pc := 43) 62 dX0_slips_43 (by decide) (fun _ => ?_) (fun _ => ?_)
    · refine T_iinc (pc := 62) (y := 1) (lv' := [(0, .ref 6), (1, .int v1), (3, .int v3), (4, .int (v4 + (1 : Int32))), (5, .int x4)]) 3 dX0_slips_62 (by decide) rfl (Nat.le_of_ble_eq_true rfl) rfl ?_
      refine T_goto (pc := 65) 14 dX0_slips_65 (by decide) ?_
      refine T_pick (lv' := [(0, .ref 6), (1, .int v1), (3, .int v3), (4, .int (v4 + (1 : Int32)))]) [0, 1, 2, 3] rfl ?_
      exact hkb σ (v4 + (1 : Int32))
    · refine T_aload_n (pc := 46) 0 dX0_slips_46 rfl rfl ?_
      refine T_iload_n (pc := 47) 1 dX0_slips_47 rfl rfl ?_
      refine T_iload (pc := 48) 4 dX0_slips_48 rfl ?_
      refine T_callSi (pc := 50) (rest := []) (Rn_V (pc := 50) (as := [.int v1, .int x4]) (rest := []) (ctX0_distance σ v1 x4) rfl rfl mv_X0_distance hw902 rfl ⟨Nat.le_of_ble_eq_true rfl, Nat.le_of_ble_eq_true rfl⟩ (Nat.le_of_ble_eq_true rfl) dX0_slips_50 rfl) rfl (fun r6 => ?_)
      refine T_aload_n (pc := 53) 0 dX0_slips_53 rfl rfl ?_
      refine T_getI (pc := 54) fd_6_6 hw192 dX0_slips_54 ?_
      refine T_icmp_gt (pc := 57) 62 dX0_slips_57 (by decide) (fun _ => ?_) (fun _ => ?_)
      · refine T_iinc (pc := 62) (y := 1) (lv' := [(0, .ref 6), (1, .int v1), (3, .int v3), (4, .int (v4 + (1 : Int32))), (5, .int x4)]) 3 dX0_slips_62 (by decide) rfl (Nat.le_of_ble_eq_true rfl) rfl ?_
        refine T_goto (pc := 65) 14 dX0_slips_65 (by decide) ?_
        refine T_pick (lv' := [(0, .ref 6), (1, .int v1), (3, .int v3), (4, .int (v4 + (1 : Int32)))]) [0, 1, 2, 3] rfl ?_
        exact hkb r6.2 (v4 + (1 : Int32))
      · refine T_iconst (pc := 60) (v := 1) dX0_slips_60 (by decide) ?_
        exact T_zreturn (pc := 61) true rfl dX0_slips_61 rfl rfl
set_option maxRecDepth 100000 in
set_option maxHeartbeats 4000000 in
theorem fX0_slips_P14_T (v1 : Int32) (v3 : Int32) (σ : St) (v4 : Int32) : T kX0_slips cSz σ 14 [(0, .ref 6), (1, .int v1), (3, .int v3), (4, .int v4)] [] (fX0_slips_P14 v1 v3 σ v4) :=
  it_T (S := (fun t : St × Int32 => t.1)) (lv := fun t : St × Int32 => [(0, .ref 6), (1, .int v1), (3, .int v3), (4, .int t.2)]) (st := fun _ => []) (fun kb hkb t => fX0_slips_L14_T v1 v3 (hkb := fun σ v4 => hkb (σ, v4)) t.1 t.2) FU (σ, v4)
set_option maxRecDepth 100000 in
set_option maxHeartbeats 4000000 in
theorem ctX0_slips (σ : St) (p0 : Int32) (p1 : Int32) : Ct yX0_slips kX0_slips [.ref 6, .int p0, .int p1] σ cSz (fX0_slips σ p0 p1) := by
  refine Ct.of (by decide +kernel) rfl rfl (Nat.le_of_ble_eq_true rfl) ?_
  unfold fX0_slips
  show T _ _ _ 0 [(0, .ref 6), (1, .int p0), (2, .int p1)] [] _
  refine T_iload_n (pc := 0) 2 dX0_slips_0 rfl rfl ?_
  refine T_iconst (pc := 1) (v := 1) dX0_slips_1 (by decide) ?_
  refine T_iload_n (pc := 2) 1 dX0_slips_2 rfl rfl ?_
  refine T_callPi (pc := 3) (rest := [.int (1 : Int32), .int p1]) (Rn_S (pc := 3) (as := [.int p0]) (rest := [.int (1 : Int32), .int p1]) (ctX7_rollOf σ p0) ms_X7_rollOf hw883 rfl ⟨Nat.le_of_ble_eq_true rfl, Nat.le_of_ble_eq_true rfl⟩ (Nat.le_of_ble_eq_true rfl) dX0_slips_3 rfl) rfl (fun x1 => ?_)
  refine T_ishl (pc := 6) dX0_slips_6 ?_
  refine T_iconst (pc := 7) (v := -1) dX0_slips_7 (by decide) ?_
  refine T_ixor (pc := 8) dX0_slips_8 ?_
  refine T_iand (pc := 9) dX0_slips_9 ?_
  refine T_letI (fun x2 => ?_)
  refine T_istore_n (pc := 10) (lv' := [(0, .ref 6), (1, .int p0), (2, .int p1), (3, .int x2)]) dX0_slips_10 rfl (Nat.le_of_ble_eq_true rfl) rfl ?_
  refine T_iconst (pc := 11) (v := 0) dX0_slips_11 (by decide) ?_
  refine T_istore (pc := 12) (lv' := [(0, .ref 6), (1, .int p0), (2, .int p1), (3, .int x2), (4, .int (0 : Int32))]) dX0_slips_12 (Nat.le_of_ble_eq_true rfl) rfl ?_
  refine T_pick (lv' := [(0, .ref 6), (1, .int p0), (3, .int x2), (4, .int (0 : Int32))]) [0, 1, 3, 4] rfl ?_
  exact fX0_slips_P14_T p0 x2 σ (0 : Int32)
set_option maxRecDepth 100000 in
set_option maxHeartbeats 4000000 in
theorem ctX0_kindOf (σ : St) (p0 : Int32) (p1 : Int32) : Ct yX0_kindOf kX0_kindOf [.ref 6, .int p0, .int p1] σ cSi (fX0_kindOf σ p0 p1) := by
  refine Ct.of (by decide +kernel) rfl rfl (Nat.le_of_ble_eq_true rfl) ?_
  unfold fX0_kindOf
  show T _ _ _ 0 [(0, .ref 6), (1, .int p0), (2, .int p1)] [] _
  refine T_aload_n (pc := 0) 0 dX0_kindOf_0 rfl rfl ?_
  refine T_getA (pc := 1) fd_6_0 hw186 dX0_kindOf_1 ?_
  refine T_iload_n (pc := 4) 1 dX0_kindOf_4 rfl rfl ?_
  refine T_callPi (pc := 5) (rest := []) (Rn_V (pc := 5) (as := [.int p0]) (rest := []) (ctX7_cueWordsOf σ p0) rfl rfl mv_X7_cueWordsOf hw805 rfl ⟨Nat.le_of_ble_eq_true rfl, Nat.le_of_ble_eq_true rfl⟩ (Nat.le_of_ble_eq_true rfl) dX0_kindOf_5 rfl) rfl (fun x1 => ?_)
  refine T_if_ne (pc := 8) 13 dX0_kindOf_8 (by decide) (fun _ => ?_) (fun _ => ?_)
  · refine T_aload_n (pc := 13) 0 dX0_kindOf_13 rfl rfl ?_
    refine T_iload_n (pc := 14) 1 dX0_kindOf_14 rfl rfl ?_
    refine T_iload_n (pc := 15) 2 dX0_kindOf_15 rfl rfl ?_
    refine T_callPi (pc := 16) (rest := []) (Rn_V (pc := 16) (as := [.int p0, .int p1]) (rest := []) (ctX0_metBy σ p0 p1) rfl rfl mv_X0_metBy hw879 rfl ⟨Nat.le_of_ble_eq_true rfl, Nat.le_of_ble_eq_true rfl⟩ (Nat.le_of_ble_eq_true rfl) dX0_kindOf_16 rfl) rfl (fun x2 => ?_)
    refine T_istore_n (pc := 19) (lv' := [(0, .ref 6), (1, .int p0), (2, .int p1), (3, .int x2)]) dX0_kindOf_19 rfl (Nat.le_of_ble_eq_true rfl) rfl ?_
    refine T_iload_n (pc := 20) 3 dX0_kindOf_20 rfl rfl ?_
    refine T_if_le (pc := 21) 35 dX0_kindOf_21 (by decide) (fun _ => ?_) (fun _ => ?_)
    · refine T_aload_n (pc := 35) 0 dX0_kindOf_35 rfl rfl ?_
      refine T_iload_n (pc := 36) 1 dX0_kindOf_36 rfl rfl ?_
      refine T_callPz (pc := 37) (rest := []) (Rn_V (pc := 37) (as := [.int p0]) (rest := []) (ctX0_isOwn σ p0) rfl rfl mv_X0_isOwn hw894 rfl ⟨Nat.le_of_ble_eq_true rfl, Nat.le_of_ble_eq_true rfl⟩ (Nat.le_of_ble_eq_true rfl) dX0_kindOf_37 rfl) rfl (fun x3 => ?_)
      refine T_if_eq (pc := 40) 45 dX0_kindOf_40 (by decide) (fun _ => ?_) (fun _ => ?_)
      · refine T_aload_n (pc := 45) 0 dX0_kindOf_45 rfl rfl ?_
        refine T_iload_n (pc := 46) 1 dX0_kindOf_46 rfl rfl ?_
        refine T_iload_n (pc := 47) 2 dX0_kindOf_47 rfl rfl ?_
        refine T_callSz (pc := 48) (rest := []) (Rn_V (pc := 48) (as := [.int p0, .int p1]) (rest := []) (ctX0_slips σ p0 p1) rfl rfl mv_X0_slips hw898 rfl ⟨Nat.le_of_ble_eq_true rfl, Nat.le_of_ble_eq_true rfl⟩ (Nat.le_of_ble_eq_true rfl) dX0_kindOf_48 rfl) rfl (fun r4 => ?_)
        refine T_if_eq (pc := 51) 58 dX0_kindOf_51 (by decide) (fun _ => ?_) (fun _ => ?_)
        · refine T_iconst (pc := 58) (v := 5) dX0_kindOf_58 (by decide) ?_
          exact T_ireturn (pc := 59) rfl dX0_kindOf_59 rfl
        · refine T_iconst (pc := 54) (v := 4) dX0_kindOf_54 (by decide) ?_
          refine T_goto (pc := 55) 59 dX0_kindOf_55 (by decide) ?_
          exact T_ireturn (pc := 59) rfl dX0_kindOf_59 rfl
      · refine T_iconst (pc := 43) (v := 3) dX0_kindOf_43 (by decide) ?_
        exact T_ireturn (pc := 44) rfl dX0_kindOf_44 rfl
    · refine T_iload_n (pc := 24) 3 dX0_kindOf_24 rfl rfl ?_
      refine T_iconst (pc := 25) (v := 1) dX0_kindOf_25 (by decide) ?_
      refine T_icmp_ne (pc := 26) 33 dX0_kindOf_26 (by decide) (fun _ => ?_) (fun _ => ?_)
      · refine T_iconst (pc := 33) (v := 2) dX0_kindOf_33 (by decide) ?_
        exact T_ireturn (pc := 34) rfl dX0_kindOf_34 rfl
      · refine T_iconst (pc := 29) (v := 1) dX0_kindOf_29 (by decide) ?_
        refine T_goto (pc := 30) 34 dX0_kindOf_30 (by decide) ?_
        exact T_ireturn (pc := 34) rfl dX0_kindOf_34 rfl
  · refine T_iconst (pc := 11) (v := 0) dX0_kindOf_11 (by decide) ?_
    exact T_ireturn (pc := 12) rfl dX0_kindOf_12 rfl
set_option maxRecDepth 100000 in
set_option maxHeartbeats 4000000 in
theorem fX0_howManyOfKind_L5_T (v1 : Int32) (v2 : Int32) (σ : St) {kb : St → Int32 → Int32 → Option (Int32 × St)} (hkb : ∀ (σ' : St) (w3 : Int32) (w4 : Int32), T kX0_howManyOfKind cSi σ' 5 [(0, .ref 6), (1, .int v1), (2, .int v2), (3, .int w3), (4, .int w4)] [] (kb σ' w3 w4)) (v3 : Int32) (v4 : Int32) : T kX0_howManyOfKind cSi σ 5 [(0, .ref 6), (1, .int v1), (2, .int v2), (3, .int v3), (4, .int v4)] [] (fX0_howManyOfKind_L5 v1 v2 kb σ v3 v4) := by
  unfold fX0_howManyOfKind_L5
  refine T_iload (pc := 5) 4 dX0_howManyOfKind_5 rfl ?_
  refine T_aload_n (pc := 7) 0 dX0_howManyOfKind_7 rfl rfl ?_
  refine T_getA (pc := 8) fd_6_0 hw186 dX0_howManyOfKind_8 ?_
  refine T_callPi (pc := 11) (rest := [.int v4]) (Rn_V (pc := 11) (as := []) (rest := [.int v4]) (ctX7_speeches σ) rfl rfl mv_X7_speeches hw884 rfl ⟨Nat.le_of_ble_eq_true rfl, Nat.le_of_ble_eq_true rfl⟩ (Nat.le_of_ble_eq_true rfl) dX0_howManyOfKind_11 rfl) rfl (fun x1 => ?_)
  refine T_icmp_ge (pc := 14) 57 dX0_howManyOfKind_14 (by decide) (fun _ => ?_) (fun _ => ?_)
  · refine T_iload_n (pc := 57) 3 dX0_howManyOfKind_57 rfl rfl ?_
    exact T_ireturn (pc := 58) rfl dX0_howManyOfKind_58 rfl
  · refine T_aload_n (pc := 17) 0 dX0_howManyOfKind_17 rfl rfl ?_
    refine T_getA (pc := 18) fd_6_0 hw186 dX0_howManyOfKind_18 ?_
    refine T_iload (pc := 21) 4 dX0_howManyOfKind_21 rfl ?_
    refine T_callPi (pc := 23) (rest := []) (Rn_V (pc := 23) (as := [.int v4]) (rest := []) (ctX7_speechAt σ v4) rfl rfl mv_X7_speechAt hw888 rfl ⟨Nat.le_of_ble_eq_true rfl, Nat.le_of_ble_eq_true rfl⟩ (Nat.le_of_ble_eq_true rfl) dX0_howManyOfKind_23 rfl) rfl (fun x2 => ?_)
    refine T_istore (pc := 26) (lv' := [(0, .ref 6), (1, .int v1), (2, .int v2), (3, .int v3), (4, .int v4), (5, .int x2)]) dX0_howManyOfKind_26 (Nat.le_of_ble_eq_true rfl) rfl ?_
    refine T_iload (pc := 28) 5 dX0_howManyOfKind_28 rfl ?_
    refine T_iload_n (pc := 30) 1 dX0_howManyOfKind_30 rfl rfl ?_
    refine T_callPz (pc := 31) (rest := []) (Rn_S (pc := 31) (as := [.int x2, .int v1]) (rest := []) (ctX7_isOf σ x2 v1) ms_X7_isOf hw892 rfl ⟨Nat.le_of_ble_eq_true rfl, Nat.le_of_ble_eq_true rfl⟩ (Nat.le_of_ble_eq_true rfl) dX0_howManyOfKind_31 rfl) rfl (fun x3 => ?_)
    refine T_if_eq (pc := 34) 51 dX0_howManyOfKind_34 (by decide) (fun _ => ?_) (fun _ => ?_)
    · refine T_iinc (pc := 51) (y := 1) (lv' := [(0, .ref 6), (1, .int v1), (2, .int v2), (3, .int v3), (4, .int (v4 + (1 : Int32))), (5, .int x2)]) 4 dX0_howManyOfKind_51 (by decide) rfl (Nat.le_of_ble_eq_true rfl) rfl ?_
      refine T_goto (pc := 54) 5 dX0_howManyOfKind_54 (by decide) ?_
      refine T_pick (lv' := [(0, .ref 6), (1, .int v1), (2, .int v2), (3, .int v3), (4, .int (v4 + (1 : Int32)))]) [0, 1, 2, 3, 4] rfl ?_
      exact hkb σ v3 (v4 + (1 : Int32))
    · refine T_aload_n (pc := 37) 0 dX0_howManyOfKind_37 rfl rfl ?_
      refine T_iload (pc := 38) 5 dX0_howManyOfKind_38 rfl ?_
      refine T_iload_n (pc := 40) 1 dX0_howManyOfKind_40 rfl rfl ?_
      refine T_callSi (pc := 41) (rest := []) (Rn_V (pc := 41) (as := [.int x2, .int v1]) (rest := []) (ctX0_kindOf σ x2 v1) rfl rfl mv_X0_kindOf hw911 rfl ⟨Nat.le_of_ble_eq_true rfl, Nat.le_of_ble_eq_true rfl⟩ (Nat.le_of_ble_eq_true rfl) dX0_howManyOfKind_41 rfl) rfl (fun r4 => ?_)
      refine T_iload_n (pc := 44) 2 dX0_howManyOfKind_44 rfl rfl ?_
      refine T_icmp_ne (pc := 45) 51 dX0_howManyOfKind_45 (by decide) (fun _ => ?_) (fun _ => ?_)
      · refine T_iinc (pc := 51) (y := 1) (lv' := [(0, .ref 6), (1, .int v1), (2, .int v2), (3, .int v3), (4, .int (v4 + (1 : Int32))), (5, .int x2)]) 4 dX0_howManyOfKind_51 (by decide) rfl (Nat.le_of_ble_eq_true rfl) rfl ?_
        refine T_goto (pc := 54) 5 dX0_howManyOfKind_54 (by decide) ?_
        refine T_pick (lv' := [(0, .ref 6), (1, .int v1), (2, .int v2), (3, .int v3), (4, .int (v4 + (1 : Int32)))]) [0, 1, 2, 3, 4] rfl ?_
        exact hkb r4.2 v3 (v4 + (1 : Int32))
      · refine T_iinc (pc := 48) (y := 1) (lv' := [(0, .ref 6), (1, .int v1), (2, .int v2), (3, .int (v3 + (1 : Int32))), (4, .int v4), (5, .int x2)]) 3 dX0_howManyOfKind_48 (by decide) rfl (Nat.le_of_ble_eq_true rfl) rfl ?_
        refine T_iinc (pc := 51) (y := 1) (lv' := [(0, .ref 6), (1, .int v1), (2, .int v2), (3, .int (v3 + (1 : Int32))), (4, .int (v4 + (1 : Int32))), (5, .int x2)]) 4 dX0_howManyOfKind_51 (by decide) rfl (Nat.le_of_ble_eq_true rfl) rfl ?_
        refine T_goto (pc := 54) 5 dX0_howManyOfKind_54 (by decide) ?_
        refine T_pick (lv' := [(0, .ref 6), (1, .int v1), (2, .int v2), (3, .int (v3 + (1 : Int32))), (4, .int (v4 + (1 : Int32)))]) [0, 1, 2, 3, 4] rfl ?_
        exact hkb r4.2 (v3 + (1 : Int32)) (v4 + (1 : Int32))
set_option maxRecDepth 100000 in
set_option maxHeartbeats 4000000 in
theorem fX0_howManyOfKind_P5_T (v1 : Int32) (v2 : Int32) (σ : St) (v3 : Int32) (v4 : Int32) : T kX0_howManyOfKind cSi σ 5 [(0, .ref 6), (1, .int v1), (2, .int v2), (3, .int v3), (4, .int v4)] [] (fX0_howManyOfKind_P5 v1 v2 σ v3 v4) :=
  it_T (S := (fun t : St × Int32 × Int32 => t.1)) (lv := fun t : St × Int32 × Int32 => [(0, .ref 6), (1, .int v1), (2, .int v2), (3, .int t.2.1), (4, .int t.2.2)]) (st := fun _ => []) (fun kb hkb t => fX0_howManyOfKind_L5_T v1 v2 (hkb := fun σ v3 v4 => hkb (σ, v3, v4)) t.1 t.2.1 t.2.2) FU (σ, v3, v4)
set_option maxRecDepth 100000 in
set_option maxHeartbeats 4000000 in
theorem ctX0_howManyOfKind (σ : St) (p0 : Int32) (p1 : Int32) : Ct yX0_howManyOfKind kX0_howManyOfKind [.ref 6, .int p0, .int p1] σ cSi (fX0_howManyOfKind σ p0 p1) := by
  refine Ct.of (by decide +kernel) rfl rfl (Nat.le_of_ble_eq_true rfl) ?_
  unfold fX0_howManyOfKind
  show T _ _ _ 0 [(0, .ref 6), (1, .int p0), (2, .int p1)] [] _
  refine T_iconst (pc := 0) (v := 0) dX0_howManyOfKind_0 (by decide) ?_
  refine T_istore_n (pc := 1) (lv' := [(0, .ref 6), (1, .int p0), (2, .int p1), (3, .int (0 : Int32))]) dX0_howManyOfKind_1 rfl (Nat.le_of_ble_eq_true rfl) rfl ?_
  refine T_iconst (pc := 2) (v := 0) dX0_howManyOfKind_2 (by decide) ?_
  refine T_istore (pc := 3) (lv' := [(0, .ref 6), (1, .int p0), (2, .int p1), (3, .int (0 : Int32)), (4, .int (0 : Int32))]) dX0_howManyOfKind_3 (Nat.le_of_ble_eq_true rfl) rfl ?_
  exact fX0_howManyOfKind_P5_T p0 p1 σ (0 : Int32) (0 : Int32)
set_option maxRecDepth 100000 in
set_option maxHeartbeats 4000000 in
theorem ctX7_has (σ : St) (p0 : Int32) : Ct yX7_has kX7_has [.ref 5, .int p0] σ (cPz σ) (fX7_has σ p0) := by
  refine Ct.of (by decide +kernel) rfl rfl (Nat.le_of_ble_eq_true rfl) ?_
  unfold fX7_has
  show T _ _ _ 0 [(0, .ref 5), (1, .int p0)] [] _
  refine T_iload_n (pc := 0) 1 dX7_has_0 rfl rfl ?_
  refine T_callPi (pc := 1) (rest := []) (Rn_S (pc := 1) (as := [.int p0]) (rest := []) (ctX7_rollOf σ p0) ms_X7_rollOf hw798 rfl ⟨Nat.le_of_ble_eq_true rfl, Nat.le_of_ble_eq_true rfl⟩ (Nat.le_of_ble_eq_true rfl) dX7_has_1 rfl) rfl (fun x1 => ?_)
  refine T_istore_n (pc := 4) (lv' := [(0, .ref 5), (1, .int p0), (2, .int x1)]) dX7_has_4 rfl (Nat.le_of_ble_eq_true rfl) rfl ?_
  refine T_iload_n (pc := 5) 1 dX7_has_5 rfl rfl ?_
  refine T_if_lt (pc := 6) 43 dX7_has_6 (by decide) (fun _ => ?_) (fun _ => ?_)
  · refine T_iconst (pc := 43) (v := 0) dX7_has_43 (by decide) ?_
    exact T_zreturn (pc := 44) false rfl dX7_has_44 rfl rfl
  · refine T_iload_n (pc := 9) 2 dX7_has_9 rfl rfl ?_
    refine T_aload_n (pc := 10) 0 dX7_has_10 rfl rfl ?_
    refine T_getI (pc := 11) fd_5_8 hw155 dX7_has_11 ?_
    refine T_icmp_ge (pc := 14) 43 dX7_has_14 (by decide) (fun _ => ?_) (fun _ => ?_)
    · refine T_iconst (pc := 43) (v := 0) dX7_has_43 (by decide) ?_
      exact T_zreturn (pc := 44) false rfl dX7_has_44 rfl rfl
    · refine T_iload_n (pc := 17) 2 dX7_has_17 rfl rfl ?_
      refine T_aload_n (pc := 18) 0 dX7_has_18 rfl rfl ?_
      refine T_getA (pc := 19) fd_5_0 hw147 dX7_has_19 ?_
      refine T_alen (pc := 22) (v := 8) rfl (by decide) dX7_has_22 ?_
      refine T_icmp_ge (pc := 23) 43 dX7_has_23 (by decide) (fun _ => ?_) (fun _ => ?_)
      · refine T_iconst (pc := 43) (v := 0) dX7_has_43 (by decide) ?_
        exact T_zreturn (pc := 44) false rfl dX7_has_44 rfl rfl
      · refine T_iload_n (pc := 26) 1 dX7_has_26 rfl rfl ?_
        refine T_bipush (pc := 27) (v := 16) dX7_has_27 (by decide) ?_
        refine T_irem (pc := 29) dX7_has_29 ?_
        refine T_aload_n (pc := 30) 0 dX7_has_30 rfl rfl ?_
        refine T_getA (pc := 31) fd_5_0 hw147 dX7_has_31 ?_
        refine T_iload_n (pc := 34) 2 dX7_has_34 rfl rfl ?_
        refine T_iald (pc := 35) rfl dX7_has_35 (fun x2 => ?_)
        refine T_icmp_ge (pc := 36) 43 dX7_has_36 (by decide) (fun _ => ?_) (fun _ => ?_)
        · refine T_iconst (pc := 43) (v := 0) dX7_has_43 (by decide) ?_
          exact T_zreturn (pc := 44) false rfl dX7_has_44 rfl rfl
        · refine T_iconst (pc := 39) (v := 1) dX7_has_39 (by decide) ?_
          refine T_goto (pc := 40) 44 dX7_has_40 (by decide) ?_
          exact T_zreturn (pc := 44) true rfl dX7_has_44 rfl rfl
set_option maxRecDepth 100000 in
set_option maxHeartbeats 4000000 in
theorem ctX7_hasCue (σ : St) (p0 : Int32) : Ct yX7_hasCue kX7_hasCue [.ref 5, .int p0] σ (cPz σ) (fX7_hasCue σ p0) := by
  refine Ct.of (by decide +kernel) rfl rfl (Nat.le_of_ble_eq_true rfl) ?_
  unfold fX7_hasCue
  show T _ _ _ 0 [(0, .ref 5), (1, .int p0)] [] _
  refine T_aload_n (pc := 0) 0 dX7_hasCue_0 rfl rfl ?_
  refine T_iload_n (pc := 1) 1 dX7_hasCue_1 rfl rfl ?_
  refine T_callPz (pc := 2) (rest := []) (Rn_V (pc := 2) (as := [.int p0]) (rest := []) (ctX7_has σ p0) rfl rfl mv_X7_has hw831 rfl ⟨Nat.le_of_ble_eq_true rfl, Nat.le_of_ble_eq_true rfl⟩ (Nat.le_of_ble_eq_true rfl) dX7_hasCue_2 rfl) rfl (fun x1 => ?_)
  refine T_if_eq (pc := 5) 21 dX7_hasCue_5 (by decide) (fun _ => ?_) (fun _ => ?_)
  · refine T_iconst (pc := 21) (v := 0) dX7_hasCue_21 (by decide) ?_
    exact T_zreturn (pc := 22) false rfl dX7_hasCue_22 rfl rfl
  · refine T_aload_n (pc := 8) 0 dX7_hasCue_8 rfl rfl ?_
    refine T_getA (pc := 9) fd_5_2 hw149 dX7_hasCue_9 ?_
    refine T_iload_n (pc := 12) 1 dX7_hasCue_12 rfl rfl ?_
    refine T_iald (pc := 13) rfl dX7_hasCue_13 (fun x2 => ?_)
    refine T_if_le (pc := 14) 21 dX7_hasCue_14 (by decide) (fun _ => ?_) (fun _ => ?_)
    · refine T_iconst (pc := 21) (v := 0) dX7_hasCue_21 (by decide) ?_
      exact T_zreturn (pc := 22) false rfl dX7_hasCue_22 rfl rfl
    · refine T_iconst (pc := 17) (v := 1) dX7_hasCue_17 (by decide) ?_
      refine T_goto (pc := 18) 22 dX7_hasCue_18 (by decide) ?_
      exact T_zreturn (pc := 22) true rfl dX7_hasCue_22 rfl rfl
