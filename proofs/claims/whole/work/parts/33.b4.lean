set_option maxHeartbeats 600000 in
set_option maxRecDepth 100000 in
theorem c_X9_isStep (g : GG) (M : Mem) (l a b : Int) (hl : rg l) (ha : rg a) (hb : rg b) : Ct g yX9_isStep cX9_isStep 3 (some .boolean) 1 [iv l, iv a, iv b] M (pIP (fun z => (z = 1 ∧ SOK l a b) ∨ (z = 0 ∧ ¬ SOK l a b)) M) := by
  refine ct_of (by decide +kernel) (Nat.le_of_ble_eq_true rfl) ?_
  show Ok g mX9_isStep (rmd 1) (FQ g (pIP (fun z => (z = 1 ∧ SOK l a b) ∨ (z = 0 ∧ ¬ SOK l a b)) M)) 0 [(0, iv l), (1, iv a), (2, iv b)] [] M
  have hl1 := hl.1
  have hl2 := hl.2
  have ha1 := ha.1
  have ha2 := ha.2
  have hb1 := hb.1
  have hb2 := hb.2
  refine x_iload_n 0 dX9_isStep_0 rfl rfl ?_
  refine x_bipush (104) dX9_isStep_1 rfl ?_
  refine x_icmp_ne (tgt := 8) dX9_isStep_3 (by decide) ⟨by omega, by omega⟩ ⟨by decide, by decide⟩ (fun c1 => ?_) (fun c1 => ?_)
  · refine x_iload_n 1 dX9_isStep_8 rfl rfl ?_
    refine x_iconst (0) dX9_isStep_9 rfl ?_
    refine x_iconst (3) dX9_isStep_10 rfl ?_
    refine x_callSIP (as := [iv a, iv 0, iv 3]) (rest := []) dX9_isStep_11 sl9_103 (c_X9_in g M a 0 3 ⟨by omega, by omega⟩ ⟨by omega, by omega⟩ ⟨by omega, by omega⟩) rfl rfl (Nat.le_of_ble_eq_true rfl) ⟨Nat.le_of_ble_eq_true rfl, Nat.le_of_ble_eq_true rfl⟩ (fun z2 h3 => ?_)
    refine x_if_ne (tgt := 19) dX9_isStep_14 (by decide) ⟨by omega, by omega⟩ (fun c5 => ?_) (fun c5 => ?_)
    · refine x_iload_n 0 dX9_isStep_19 rfl rfl ?_
      refine x_bipush (115) dX9_isStep_20 rfl ?_
      refine x_icmp_ne (tgt := 36) dX9_isStep_22 (by decide) ⟨by omega, by omega⟩ ⟨by decide, by decide⟩ (fun c6 => ?_) (fun c6 => ?_)
      · refine x_iload_n 0 dX9_isStep_36 rfl rfl ?_
        refine x_bipush (106) dX9_isStep_37 rfl ?_
        refine x_icmp_eq (tgt := 48) dX9_isStep_39 (by decide) ⟨by omega, by omega⟩ ⟨by decide, by decide⟩ (fun c7 => ?_) (fun c7 => ?_)
        · refine x_iload_n 2 dX9_isStep_48 rfl rfl ?_
          refine x_iconst (0) dX9_isStep_49 rfl ?_
          refine x_bipush (99) dX9_isStep_50 rfl ?_
          refine x_callSIP (as := [iv b, iv 0, iv 99]) (rest := []) dX9_isStep_52 sl9_103 (c_X9_in g M b 0 99 ⟨by omega, by omega⟩ ⟨by omega, by omega⟩ ⟨by omega, by omega⟩) rfl rfl (Nat.le_of_ble_eq_true rfl) ⟨Nat.le_of_ble_eq_true rfl, Nat.le_of_ble_eq_true rfl⟩ (fun z8 h9 => ?_)
          refine x_iret dX9_isStep_55 rfl (iZ_bool (by omega)) ?_
          exact ⟨_, rfl, rfl, by unfold SOK; omega⟩
        · refine x_iload_n 0 dX9_isStep_42 rfl rfl ?_
          refine x_bipush (110) dX9_isStep_43 rfl ?_
          refine x_icmp_ne (tgt := 56) dX9_isStep_45 (by decide) ⟨by omega, by omega⟩ ⟨by decide, by decide⟩ (fun c11 => ?_) (fun c11 => ?_)
          · refine x_iload_n 0 dX9_isStep_56 rfl rfl ?_
            refine x_bipush (105) dX9_isStep_57 rfl ?_
            refine x_icmp_eq (tgt := 95) dX9_isStep_59 (by decide) ⟨by omega, by omega⟩ ⟨by decide, by decide⟩ (fun c12 => ?_) (fun c12 => ?_)
            · refine x_iconst (1) dX9_isStep_95 rfl ?_
              refine x_goto (tgt := 100) dX9_isStep_96 (by decide) ?_
              refine x_iret dX9_isStep_100 rfl (iZ_bool (by omega)) ?_
              exact ⟨_, rfl, rfl, by unfold SOK; omega⟩
            · refine x_iload_n 0 dX9_isStep_62 rfl rfl ?_
              refine x_bipush (111) dX9_isStep_63 rfl ?_
              refine x_icmp_eq (tgt := 95) dX9_isStep_65 (by decide) ⟨by omega, by omega⟩ ⟨by decide, by decide⟩ (fun c13 => ?_) (fun c13 => ?_)
              · refine x_iconst (1) dX9_isStep_95 rfl ?_
                refine x_goto (tgt := 100) dX9_isStep_96 (by decide) ?_
                refine x_iret dX9_isStep_100 rfl (iZ_bool (by omega)) ?_
                exact ⟨_, rfl, rfl, by unfold SOK; omega⟩
              · refine x_iload_n 0 dX9_isStep_68 rfl rfl ?_
                refine x_bipush (97) dX9_isStep_69 rfl ?_
                refine x_icmp_eq (tgt := 86) dX9_isStep_71 (by decide) ⟨by omega, by omega⟩ ⟨by decide, by decide⟩ (fun c14 => ?_) (fun c14 => ?_)
                · refine x_iload_n 2 dX9_isStep_86 rfl rfl ?_
                  refine x_iconst (0) dX9_isStep_87 rfl ?_
                  refine x_iconst (3) dX9_isStep_88 rfl ?_
                  refine x_callSIP (as := [iv b, iv 0, iv 3]) (rest := []) dX9_isStep_89 sl9_103 (c_X9_in g M b 0 3 ⟨by omega, by omega⟩ ⟨by omega, by omega⟩ ⟨by omega, by omega⟩) rfl rfl (Nat.le_of_ble_eq_true rfl) ⟨Nat.le_of_ble_eq_true rfl, Nat.le_of_ble_eq_true rfl⟩ (fun z15 h16 => ?_)
                  refine x_if_eq (tgt := 99) dX9_isStep_92 (by decide) ⟨by omega, by omega⟩ (fun c18 => ?_) (fun c18 => ?_)
                  · refine x_iconst (0) dX9_isStep_99 rfl ?_
                    refine x_iret dX9_isStep_100 rfl (iZ_bool (by omega)) ?_
                    exact ⟨_, rfl, rfl, by unfold SOK; omega⟩
                  · refine x_iconst (1) dX9_isStep_95 rfl ?_
                    refine x_goto (tgt := 100) dX9_isStep_96 (by decide) ?_
                    refine x_iret dX9_isStep_100 rfl (iZ_bool (by omega)) ?_
                    exact ⟨_, rfl, rfl, by unfold SOK; omega⟩
                · refine x_iload_n 0 dX9_isStep_74 rfl rfl ?_
                  refine x_bipush (109) dX9_isStep_75 rfl ?_
                  refine x_icmp_eq (tgt := 86) dX9_isStep_77 (by decide) ⟨by omega, by omega⟩ ⟨by decide, by decide⟩ (fun c19 => ?_) (fun c19 => ?_)
                  · refine x_iload_n 2 dX9_isStep_86 rfl rfl ?_
                    refine x_iconst (0) dX9_isStep_87 rfl ?_
                    refine x_iconst (3) dX9_isStep_88 rfl ?_
                    refine x_callSIP (as := [iv b, iv 0, iv 3]) (rest := []) dX9_isStep_89 sl9_103 (c_X9_in g M b 0 3 ⟨by omega, by omega⟩ ⟨by omega, by omega⟩ ⟨by omega, by omega⟩) rfl rfl (Nat.le_of_ble_eq_true rfl) ⟨Nat.le_of_ble_eq_true rfl, Nat.le_of_ble_eq_true rfl⟩ (fun z20 h21 => ?_)
                    refine x_if_eq (tgt := 99) dX9_isStep_92 (by decide) ⟨by omega, by omega⟩ (fun c23 => ?_) (fun c23 => ?_)
                    · refine x_iconst (0) dX9_isStep_99 rfl ?_
                      refine x_iret dX9_isStep_100 rfl (iZ_bool (by omega)) ?_
                      exact ⟨_, rfl, rfl, by unfold SOK; omega⟩
                    · refine x_iconst (1) dX9_isStep_95 rfl ?_
                      refine x_goto (tgt := 100) dX9_isStep_96 (by decide) ?_
                      refine x_iret dX9_isStep_100 rfl (iZ_bool (by omega)) ?_
                      exact ⟨_, rfl, rfl, by unfold SOK; omega⟩
                  · refine x_iload_n 0 dX9_isStep_80 rfl rfl ?_
                    refine x_bipush (100) dX9_isStep_81 rfl ?_
                    refine x_icmp_ne (tgt := 99) dX9_isStep_83 (by decide) ⟨by omega, by omega⟩ ⟨by decide, by decide⟩ (fun c24 => ?_) (fun c24 => ?_)
                    · refine x_iconst (0) dX9_isStep_99 rfl ?_
                      refine x_iret dX9_isStep_100 rfl (iZ_bool (by omega)) ?_
                      exact ⟨_, rfl, rfl, by unfold SOK; omega⟩
                    · refine x_iload_n 2 dX9_isStep_86 rfl rfl ?_
                      refine x_iconst (0) dX9_isStep_87 rfl ?_
                      refine x_iconst (3) dX9_isStep_88 rfl ?_
                      refine x_callSIP (as := [iv b, iv 0, iv 3]) (rest := []) dX9_isStep_89 sl9_103 (c_X9_in g M b 0 3 ⟨by omega, by omega⟩ ⟨by omega, by omega⟩ ⟨by omega, by omega⟩) rfl rfl (Nat.le_of_ble_eq_true rfl) ⟨Nat.le_of_ble_eq_true rfl, Nat.le_of_ble_eq_true rfl⟩ (fun z25 h26 => ?_)
                      refine x_if_eq (tgt := 99) dX9_isStep_92 (by decide) ⟨by omega, by omega⟩ (fun c28 => ?_) (fun c28 => ?_)
                      · refine x_iconst (0) dX9_isStep_99 rfl ?_
                        refine x_iret dX9_isStep_100 rfl (iZ_bool (by omega)) ?_
                        exact ⟨_, rfl, rfl, by unfold SOK; omega⟩
                      · refine x_iconst (1) dX9_isStep_95 rfl ?_
                        refine x_goto (tgt := 100) dX9_isStep_96 (by decide) ?_
                        refine x_iret dX9_isStep_100 rfl (iZ_bool (by omega)) ?_
                        exact ⟨_, rfl, rfl, by unfold SOK; omega⟩
          · refine x_iload_n 2 dX9_isStep_48 rfl rfl ?_
            refine x_iconst (0) dX9_isStep_49 rfl ?_
            refine x_bipush (99) dX9_isStep_50 rfl ?_
            refine x_callSIP (as := [iv b, iv 0, iv 99]) (rest := []) dX9_isStep_52 sl9_103 (c_X9_in g M b 0 99 ⟨by omega, by omega⟩ ⟨by omega, by omega⟩ ⟨by omega, by omega⟩) rfl rfl (Nat.le_of_ble_eq_true rfl) ⟨Nat.le_of_ble_eq_true rfl, Nat.le_of_ble_eq_true rfl⟩ (fun z29 h30 => ?_)
            refine x_iret dX9_isStep_55 rfl (iZ_bool (by omega)) ?_
            exact ⟨_, rfl, rfl, by unfold SOK; omega⟩
      · refine x_iload_n 2 dX9_isStep_25 rfl rfl ?_
        refine x_sipush (-999) dX9_isStep_26 rfl ?_
        refine x_sipush (999) dX9_isStep_29 rfl ?_
        refine x_callSIP (as := [iv b, iv ((-999)), iv 999]) (rest := []) dX9_isStep_32 sl9_103 (c_X9_in g M b ((-999)) 999 ⟨by omega, by omega⟩ ⟨by omega, by omega⟩ ⟨by omega, by omega⟩) rfl rfl (Nat.le_of_ble_eq_true rfl) ⟨Nat.le_of_ble_eq_true rfl, Nat.le_of_ble_eq_true rfl⟩ (fun z32 h33 => ?_)
        refine x_iret dX9_isStep_35 rfl (iZ_bool (by omega)) ?_
        exact ⟨_, rfl, rfl, by unfold SOK; omega⟩
    · refine x_iconst (0) dX9_isStep_17 rfl ?_
      refine x_iret dX9_isStep_18 rfl (iZ_bool (by omega)) ?_
      exact ⟨_, rfl, rfl, by unfold SOK; omega⟩
  · refine x_iconst (1) dX9_isStep_6 rfl ?_
    refine x_iret dX9_isStep_7 rfl (iZ_bool (by omega)) ?_
    exact ⟨_, rfl, rfl, by unfold SOK; omega⟩

set_option maxHeartbeats 600000 in
set_option maxRecDepth 100000 in
theorem c_X9_isNoTest (g : GG) (M : Mem) (r t : Int) (I : RB M) (hr : rg r) (ht : rg t) : Ct g yX9_isNoTest cX9_isNoTest 3 (some .boolean) 2 [rv g 468, iv r, iv t] M (pIP (fun z => (z = 1 ∧ (r < 0 ∨ M 468 18 ≤ r ∨ (0 ≤ r ∧ r < M 468 18 ∧ (t < 0 ∨ (M 476 ((M 482 (r)))) ≤ t)))) ∨ (z = 0 ∧ 0 ≤ r ∧ r < M 468 18 ∧ 0 ≤ t ∧ t < (M 476 ((M 482 (r)))))) M) := by
  refine ct_of (by decide +kernel) (Nat.le_of_ble_eq_true rfl) ?_
  show Ok g mX9_isNoTest (rmd 2) (FQ g (pIP (fun z => (z = 1 ∧ (r < 0 ∨ M 468 18 ≤ r ∨ (0 ≤ r ∧ r < M 468 18 ∧ (t < 0 ∨ (M 476 ((M 482 (r)))) ≤ t)))) ∨ (z = 0 ∧ 0 ≤ r ∧ r < M 468 18 ∧ 0 ≤ t ∧ t < (M 476 ((M 482 (r)))))) M)) 0 [(0, rv g 468), (1, iv r), (2, iv t)] [] M
  have i0 := I.rng
  have hr1 := hr.1
  have hr2 := hr.2
  have ht1 := ht.1
  have ht2 := ht.2
  refine x_aload_n 0 dX9_isNoTest_0 rfl rfl ?_
  refine x_iload_n 1 dX9_isNoTest_1 rfl rfl ?_
  refine x_callVIP (as := [iv r]) (rest := []) dX9_isNoTest_2 vl9_193 k_468 (c_X9_isNoRun g M r ⟨by omega, by omega⟩ (by omega) (by omega)) rfl rfl (Nat.le_of_ble_eq_true rfl) ⟨Nat.le_of_ble_eq_true rfl, Nat.le_of_ble_eq_true rfl⟩ (fun z1 h2 => ?_)
  refine x_if_ne (tgt := 29) dX9_isNoTest_5 (by decide) ⟨by omega, by omega⟩ (fun c4 => ?_) (fun c4 => ?_)
  · refine x_iconst (1) dX9_isNoTest_29 rfl ?_
    refine x_goto (tgt := 34) dX9_isNoTest_30 (by decide) ?_
    refine x_iret dX9_isNoTest_34 rfl (iZ_bool (by omega)) ?_
    exact ⟨_, rfl, rfl, by omega⟩
  · have i1 := I.run r (by omega) (by omega)
    have i2 := I.prob (M 482 r) (by omega) (by omega)
    refine x_iload_n 2 dX9_isNoTest_8 rfl rfl ?_
    refine x_iconst (0) dX9_isNoTest_9 rfl ?_
    refine x_aload_n 0 dX9_isNoTest_10 rfl rfl ?_
    refine x_getr (k := 12) (d := 8) dX9_isNoTest_11 fl9_32 k_468 rfl (fun k5 => ?_)
    have k5 : isK 20 5 476 := k5
    show Ok g mX9_isNoTest (rmd 2) (FQ g (pIP (fun z => (z = 1 ∧ (r < 0 ∨ M 468 18 ≤ r ∨ (0 ≤ r ∧ r < M 468 18 ∧ (t < 0 ∨ (M 476 ((M 482 (r)))) ≤ t)))) ∨ (z = 0 ∧ 0 ≤ r ∧ r < M 468 18 ∧ 0 ≤ t ∧ t < (M 476 ((M 482 (r)))))) M)) 14 [(0, rv g 468), (1, iv r), (2, iv t)] [rv g 476, iv 0, iv t] M
    refine x_aload_n 0 dX9_isNoTest_14 rfl rfl ?_
    refine x_getr (k := 20) (d := 14) dX9_isNoTest_15 fl9_50 k_468 rfl (fun k6 => ?_)
    have k6 : isK 20 40 482 := k6
    show Ok g mX9_isNoTest (rmd 2) (FQ g (pIP (fun z => (z = 1 ∧ (r < 0 ∨ M 468 18 ≤ r ∨ (0 ≤ r ∧ r < M 468 18 ∧ (t < 0 ∨ (M 476 ((M 482 (r)))) ≤ t)))) ∨ (z = 0 ∧ 0 ≤ r ∧ r < M 468 18 ∧ 0 ≤ t ∧ t < (M 476 ((M 482 (r)))))) M)) 18 [(0, rv g 468), (1, iv r), (2, iv t)] [rv g 482, rv g 476, iv 0, iv t] M
    refine x_iload_n 1 dX9_isNoTest_18 rfl rfl ?_
    refine x_iald dX9_isNoTest_19 k6 (by omega) (by omega) (by decide) (fun ⟨a7, a7'⟩ => ?_)
    refine x_iald dX9_isNoTest_20 k5 (by omega) (by omega) (by decide) (fun ⟨a8, a8'⟩ => ?_)
    refine x_iconst (1) dX9_isNoTest_21 rfl ?_
    refine x_isub dX9_isNoTest_22 ?_
    refine x_callSIP (as := [iv t, iv 0, iv ((M 476 (M 482 r)) - 1)]) (rest := []) dX9_isNoTest_23 sl9_103 (c_X9_in g M t 0 ((M 476 (M 482 r)) - 1) ⟨by omega, by omega⟩ ⟨by omega, by omega⟩ ⟨by omega, by omega⟩) rfl rfl (Nat.le_of_ble_eq_true rfl) ⟨Nat.le_of_ble_eq_true rfl, Nat.le_of_ble_eq_true rfl⟩ (fun z9 h10 => ?_)
    refine x_if_ne (tgt := 33) dX9_isNoTest_26 (by decide) ⟨by omega, by omega⟩ (fun c12 => ?_) (fun c12 => ?_)
    · refine x_iconst (0) dX9_isNoTest_33 rfl ?_
      refine x_iret dX9_isNoTest_34 rfl (iZ_bool (by omega)) ?_
      exact ⟨_, rfl, rfl, by omega⟩
    · refine x_iconst (1) dX9_isNoTest_29 rfl ?_
      refine x_goto (tgt := 34) dX9_isNoTest_30 (by decide) ?_
      refine x_iret dX9_isNoTest_34 rfl (iZ_bool (by omega)) ?_
      exact ⟨_, rfl, rfl, by omega⟩

set_option maxHeartbeats 600000 in
set_option maxRecDepth 100000 in
theorem c_X9_tests (g : GG) (M : Mem) (p : Int) (I : RB M) (hp : rg p) : Ct g yX9_tests cX9_tests 2 (some .int) 3 [rv g 468, iv p] M (pI (fun z M' => ∃ c, M' = up M 468 0 c ∧ ((c = 1 ∧ (p < 0 ∨ M 468 9 ≤ p)) ∨ (c = 0 ∧ 0 ≤ p ∧ p < M 468 9 ∧ z = (M 476 (p)))))) := by
  refine ct_of (by decide +kernel) (Nat.le_of_ble_eq_true rfl) ?_
  show Ok g mX9_tests (rmd 3) (FQ g (pI (fun z M' => ∃ c, M' = up M 468 0 c ∧ ((c = 1 ∧ (p < 0 ∨ M 468 9 ≤ p)) ∨ (c = 0 ∧ 0 ≤ p ∧ p < M 468 9 ∧ z = (M 476 (p))))))) 0 [(0, rv g 468), (1, iv p)] [] M
  have i0 := I.rng
  have hp1 := hp.1
  have hp2 := hp.2
  refine x_aload_n 0 dX9_tests_0 rfl rfl ?_
  refine x_aload_n 0 dX9_tests_1 rfl rfl ?_
  refine x_iload_n 1 dX9_tests_2 rfl rfl ?_
  refine x_callVIP (as := [iv p]) (rest := [rv g 468]) dX9_tests_3 vl9_133 k_468 (c_X9_isNoProblem g M p ⟨by omega, by omega⟩ (by omega) (by omega)) rfl rfl (Nat.le_of_ble_eq_true rfl) ⟨Nat.le_of_ble_eq_true rfl, Nat.le_of_ble_eq_true rfl⟩ (fun z1 h2 => ?_)
  refine x_if_eq (tgt := 13) dX9_tests_6 (by decide) ⟨by omega, by omega⟩ (fun c4 => ?_) (fun c4 => ?_)
  · refine x_iconst (0) dX9_tests_13 rfl ?_
    refine x_callVIP (as := [iv 0]) (rest := []) dX9_tests_14 vl9_114 k_468 (c_X9_fails g M 0 (by omega) (by omega)) rfl rfl (Nat.le_of_ble_eq_true rfl) ⟨Nat.le_of_ble_eq_true rfl, Nat.le_of_ble_eq_true rfl⟩ (fun z5 h6 => ?_)
    refine x_if_eq (tgt := 24) dX9_tests_17 (by decide) ⟨by omega, by omega⟩ (fun c8 => ?_) (fun c8 => ?_)
    · refine x_aload_n 0 dX9_tests_24 rfl rfl ?_
      refine x_getr (k := 12) (d := 8) dX9_tests_25 fl9_32 k_468 rfl (fun k9 => ?_)
      have k9 : isK 20 5 476 := k9
      show Ok g mX9_tests (rmd 3) (FQ g (pI (fun z M' => ∃ c, M' = up M 468 0 c ∧ ((c = 1 ∧ (p < 0 ∨ M 468 9 ≤ p)) ∨ (c = 0 ∧ 0 ≤ p ∧ p < M 468 9 ∧ z = (M 476 (p))))))) 28 [(0, rv g 468), (1, iv p)] [rv g 476] (up M 468 0 0)
      refine x_iload_n 1 dX9_tests_28 rfl rfl ?_
      refine x_iald dX9_tests_29 k9 (by omega) (by omega) (by decide) (fun ⟨a10, a10'⟩ => ?_)
      have e11 : (up M 468 0 0) 476 p = M 476 p := (by simp (disch := omega) only [up_s, up_o, up_k])
      simp only [e11] at a10 a10' ⊢
      refine x_iret dX9_tests_30 rfl rfl ?_
      exact ⟨_, rfl, 0, rfl, by omega⟩
    · refine x_iconst (0) dX9_tests_20 rfl ?_
      refine x_goto (tgt := 30) dX9_tests_21 (by decide) ?_
      refine x_iret dX9_tests_30 rfl rfl ?_
      exact ⟨_, rfl, 0, rfl, by omega⟩
  · refine x_iconst (1) dX9_tests_9 rfl ?_
    refine x_goto (tgt := 14) dX9_tests_10 (by decide) ?_
    refine x_callVIP (as := [iv 1]) (rest := []) dX9_tests_14 vl9_114 k_468 (c_X9_fails g M 1 (by omega) (by omega)) rfl rfl (Nat.le_of_ble_eq_true rfl) ⟨Nat.le_of_ble_eq_true rfl, Nat.le_of_ble_eq_true rfl⟩ (fun z12 h13 => ?_)
    refine x_if_eq (tgt := 24) dX9_tests_17 (by decide) ⟨by omega, by omega⟩ (fun c15 => ?_) (fun c15 => ?_)
    · refine x_aload_n 0 dX9_tests_24 rfl rfl ?_
      refine x_getr (k := 12) (d := 8) dX9_tests_25 fl9_32 k_468 rfl (fun k16 => ?_)
      have k16 : isK 20 5 476 := k16
      show Ok g mX9_tests (rmd 3) (FQ g (pI (fun z M' => ∃ c, M' = up M 468 0 c ∧ ((c = 1 ∧ (p < 0 ∨ M 468 9 ≤ p)) ∨ (c = 0 ∧ 0 ≤ p ∧ p < M 468 9 ∧ z = (M 476 (p))))))) 28 [(0, rv g 468), (1, iv p)] [rv g 476] (up M 468 0 1)
      refine x_iload_n 1 dX9_tests_28 rfl rfl ?_
      refine x_iald dX9_tests_29 k16 (by omega) (by omega) (by decide) (fun ⟨a17, a17'⟩ => ?_)
      have e18 : (up M 468 0 1) 476 p = M 476 p := (by simp (disch := omega) only [up_s, up_o, up_k])
      simp only [e18] at a17 a17' ⊢
      refine x_iret dX9_tests_30 rfl rfl ?_
      exact ⟨_, rfl, 1, rfl, by omega⟩
    · refine x_iconst (0) dX9_tests_20 rfl ?_
      refine x_goto (tgt := 30) dX9_tests_21 (by decide) ?_
      refine x_iret dX9_tests_30 rfl rfl ?_
      exact ⟨_, rfl, 1, rfl, by omega⟩

set_option maxHeartbeats 600000 in
set_option maxRecDepth 100000 in
theorem c_X9_verdict (g : GG) (M : Mem) (r : Int) (I : RB M) (hr : rg r) : Ct g yX9_verdict cX9_verdict 2 (some .char) 3 [rv g 468, iv r] M (pI (fun z M' => ∃ c, M' = up M 468 0 c ∧ ((c = 1 ∧ (r < 0 ∨ M 468 18 ≤ r)) ∨ (c = 0 ∧ 0 ≤ r ∧ r < M 468 18 ∧ z = vz M r)))) := by
  refine ct_of (by decide +kernel) (Nat.le_of_ble_eq_true rfl) ?_
  show Ok g mX9_verdict (rmd 3) (FQ g (pI (fun z M' => ∃ c, M' = up M 468 0 c ∧ ((c = 1 ∧ (r < 0 ∨ M 468 18 ≤ r)) ∨ (c = 0 ∧ 0 ≤ r ∧ r < M 468 18 ∧ z = vz M r))))) 0 [(0, rv g 468), (1, iv r)] [] M
  have i0 := I.rng
  have hr1 := hr.1
  have hr2 := hr.2
  refine x_aload_n 0 dX9_verdict_0 rfl rfl ?_
  refine x_aload_n 0 dX9_verdict_1 rfl rfl ?_
  refine x_iload_n 1 dX9_verdict_2 rfl rfl ?_
  refine x_callVIP (as := [iv r]) (rest := [rv g 468]) dX9_verdict_3 vl9_193 k_468 (c_X9_isNoRun g M r ⟨by omega, by omega⟩ (by omega) (by omega)) rfl rfl (Nat.le_of_ble_eq_true rfl) ⟨Nat.le_of_ble_eq_true rfl, Nat.le_of_ble_eq_true rfl⟩ (fun z1 h2 => ?_)
  refine x_if_eq (tgt := 13) dX9_verdict_6 (by decide) ⟨by omega, by omega⟩ (fun c4 => ?_) (fun c4 => ?_)
  · refine x_iconst (0) dX9_verdict_13 rfl ?_
    refine x_callVIP (as := [iv 0]) (rest := []) dX9_verdict_14 vl9_114 k_468 (c_X9_fails g M 0 (by omega) (by omega)) rfl rfl (Nat.le_of_ble_eq_true rfl) ⟨Nat.le_of_ble_eq_true rfl, Nat.le_of_ble_eq_true rfl⟩ (fun z5 h6 => ?_)
    refine x_if_eq (tgt := 25) dX9_verdict_17 (by decide) ⟨by omega, by omega⟩ (fun c8 => ?_) (fun c8 => ?_)
    · refine x_aload_n 0 dX9_verdict_25 rfl rfl ?_
      refine x_iload_n 1 dX9_verdict_26 rfl rfl ?_
      refine x_callVIP (as := [iv r]) (rest := []) dX9_verdict_27 vl9_160 k_468 (c_X9_verdictOf g (up M 468 0 0) r (I.code 0) (by omega) (by rw [up_code (by omega)]; omega)) rfl rfl (Nat.le_of_ble_eq_true rfl) ⟨Nat.le_of_ble_eq_true rfl, Nat.le_of_ble_eq_true rfl⟩ (fun z9 h10 => ?_)
      rw [vz_code] at h10
      refine x_iret dX9_verdict_30 rfl (iZ_char (by omega) (by omega)) ?_
      exact ⟨_, rfl, 0, rfl, by omega⟩
    · refine x_bipush (32) dX9_verdict_20 rfl ?_
      refine x_goto (tgt := 30) dX9_verdict_22 (by decide) ?_
      refine x_iret dX9_verdict_30 rfl (iZ_char (by omega) (by omega)) ?_
      exact ⟨_, rfl, 0, rfl, by omega⟩
  · refine x_iconst (1) dX9_verdict_9 rfl ?_
    refine x_goto (tgt := 14) dX9_verdict_10 (by decide) ?_
    refine x_callVIP (as := [iv 1]) (rest := []) dX9_verdict_14 vl9_114 k_468 (c_X9_fails g M 1 (by omega) (by omega)) rfl rfl (Nat.le_of_ble_eq_true rfl) ⟨Nat.le_of_ble_eq_true rfl, Nat.le_of_ble_eq_true rfl⟩ (fun z12 h13 => ?_)
    refine x_if_eq (tgt := 25) dX9_verdict_17 (by decide) ⟨by omega, by omega⟩ (fun c15 => ?_) (fun c15 => ?_)
    · refine x_aload_n 0 dX9_verdict_25 rfl rfl ?_
      refine x_iload_n 1 dX9_verdict_26 rfl rfl ?_
      refine x_callVIP (as := [iv r]) (rest := []) dX9_verdict_27 vl9_160 k_468 (c_X9_verdictOf g (up M 468 0 1) r (I.code 0) (by omega) (by rw [up_code (by omega)]; omega)) rfl rfl (Nat.le_of_ble_eq_true rfl) ⟨Nat.le_of_ble_eq_true rfl, Nat.le_of_ble_eq_true rfl⟩ (fun z16 h17 => ?_)
      rw [vz_code] at h17
      refine x_iret dX9_verdict_30 rfl (iZ_char (by omega) (by omega)) ?_
      exact ⟨_, rfl, 1, rfl, by omega⟩
    · refine x_bipush (32) dX9_verdict_20 rfl ?_
      refine x_goto (tgt := 30) dX9_verdict_22 (by decide) ?_
      refine x_iret dX9_verdict_30 rfl (iZ_char (by omega) (by omega)) ?_
      exact ⟨_, rfl, 1, rfl, by omega⟩

set_option maxHeartbeats 600000 in
set_option maxRecDepth 100000 in
theorem c_X9_failed (g : GG) (M : Mem) (r : Int) (I : RB M) (hr : rg r) : Ct g yX9_failed cX9_failed 2 (some .int) 3 [rv g 468, iv r] M (pI (fun z M' => ∃ c, M' = up M 468 0 c ∧ ((c = 1 ∧ (r < 0 ∨ M 468 18 ≤ r)) ∨ (c = 0 ∧ 0 ≤ r ∧ r < M 468 18 ∧ z = fz M r)))) := by
  refine ct_of (by decide +kernel) (Nat.le_of_ble_eq_true rfl) ?_
  show Ok g mX9_failed (rmd 3) (FQ g (pI (fun z M' => ∃ c, M' = up M 468 0 c ∧ ((c = 1 ∧ (r < 0 ∨ M 468 18 ≤ r)) ∨ (c = 0 ∧ 0 ≤ r ∧ r < M 468 18 ∧ z = fz M r))))) 0 [(0, rv g 468), (1, iv r)] [] M
  have i0 := I.rng
  have hr1 := hr.1
  have hr2 := hr.2
  refine x_aload_n 0 dX9_failed_0 rfl rfl ?_
  refine x_aload_n 0 dX9_failed_1 rfl rfl ?_
  refine x_iload_n 1 dX9_failed_2 rfl rfl ?_
  refine x_callVIP (as := [iv r]) (rest := [rv g 468]) dX9_failed_3 vl9_193 k_468 (c_X9_isNoRun g M r ⟨by omega, by omega⟩ (by omega) (by omega)) rfl rfl (Nat.le_of_ble_eq_true rfl) ⟨Nat.le_of_ble_eq_true rfl, Nat.le_of_ble_eq_true rfl⟩ (fun z1 h2 => ?_)
  refine x_if_eq (tgt := 13) dX9_failed_6 (by decide) ⟨by omega, by omega⟩ (fun c4 => ?_) (fun c4 => ?_)
  · refine x_iconst (0) dX9_failed_13 rfl ?_
    refine x_callVIP (as := [iv 0]) (rest := []) dX9_failed_14 vl9_114 k_468 (c_X9_fails g M 0 (by omega) (by omega)) rfl rfl (Nat.le_of_ble_eq_true rfl) ⟨Nat.le_of_ble_eq_true rfl, Nat.le_of_ble_eq_true rfl⟩ (fun z5 h6 => ?_)
    refine x_if_eq (tgt := 24) dX9_failed_17 (by decide) ⟨by omega, by omega⟩ (fun c8 => ?_) (fun c8 => ?_)
    · refine x_aload_n 0 dX9_failed_24 rfl rfl ?_
      refine x_iload_n 1 dX9_failed_25 rfl rfl ?_
      refine x_callVIP (as := [iv r]) (rest := []) dX9_failed_26 vl9_156 k_468 (c_X9_failedOf g (up M 468 0 0) r (I.code 0) (by omega) (by rw [up_code (by omega)]; omega)) rfl rfl (Nat.le_of_ble_eq_true rfl) ⟨Nat.le_of_ble_eq_true rfl, Nat.le_of_ble_eq_true rfl⟩ (fun z9 h10 => ?_)
      rw [fz_code] at h10
      refine x_iret dX9_failed_29 rfl rfl ?_
      exact ⟨_, rfl, 0, rfl, by omega⟩
    · refine x_iconst (0) dX9_failed_20 rfl ?_
      refine x_goto (tgt := 29) dX9_failed_21 (by decide) ?_
      refine x_iret dX9_failed_29 rfl rfl ?_
      exact ⟨_, rfl, 0, rfl, by omega⟩
  · refine x_iconst (1) dX9_failed_9 rfl ?_
    refine x_goto (tgt := 14) dX9_failed_10 (by decide) ?_
    refine x_callVIP (as := [iv 1]) (rest := []) dX9_failed_14 vl9_114 k_468 (c_X9_fails g M 1 (by omega) (by omega)) rfl rfl (Nat.le_of_ble_eq_true rfl) ⟨Nat.le_of_ble_eq_true rfl, Nat.le_of_ble_eq_true rfl⟩ (fun z12 h13 => ?_)
    refine x_if_eq (tgt := 24) dX9_failed_17 (by decide) ⟨by omega, by omega⟩ (fun c15 => ?_) (fun c15 => ?_)
    · refine x_aload_n 0 dX9_failed_24 rfl rfl ?_
      refine x_iload_n 1 dX9_failed_25 rfl rfl ?_
      refine x_callVIP (as := [iv r]) (rest := []) dX9_failed_26 vl9_156 k_468 (c_X9_failedOf g (up M 468 0 1) r (I.code 0) (by omega) (by rw [up_code (by omega)]; omega)) rfl rfl (Nat.le_of_ble_eq_true rfl) ⟨Nat.le_of_ble_eq_true rfl, Nat.le_of_ble_eq_true rfl⟩ (fun z16 h17 => ?_)
      rw [fz_code] at h17
      refine x_iret dX9_failed_29 rfl rfl ?_
      exact ⟨_, rfl, 1, rfl, by omega⟩
    · refine x_iconst (0) dX9_failed_20 rfl ?_
      refine x_goto (tgt := 29) dX9_failed_21 (by decide) ?_
      refine x_iret dX9_failed_29 rfl rfl ?_
      exact ⟨_, rfl, 1, rfl, by omega⟩

set_option maxHeartbeats 600000 in
set_option maxRecDepth 100000 in
theorem c_X9_ended (g : GG) (M : Mem) (r t : Int) (I : RB M) (hr : rg r) (ht : rg t) : Ct g yX9_ended cX9_ended 3 (some .char) 3 [rv g 468, iv r, iv t] M (pI (fun z M' => ∃ c, M' = up M 468 0 c ∧ ((c = 1 ∧ (r < 0 ∨ M 468 18 ≤ r ∨ (0 ≤ r ∧ r < M 468 18 ∧ (t < 0 ∨ (M 476 ((M 482 (r)))) ≤ t)))) ∨ (c = 0 ∧ 0 ≤ r ∧ r < M 468 18 ∧ 0 ≤ t ∧ t < (M 476 ((M 482 (r)))) ∧ z = (M 488 (6 * r + t)))))) := by
  refine ct_of (by decide +kernel) (Nat.le_of_ble_eq_true rfl) ?_
  show Ok g mX9_ended (rmd 3) (FQ g (pI (fun z M' => ∃ c, M' = up M 468 0 c ∧ ((c = 1 ∧ (r < 0 ∨ M 468 18 ≤ r ∨ (0 ≤ r ∧ r < M 468 18 ∧ (t < 0 ∨ (M 476 ((M 482 (r)))) ≤ t)))) ∨ (c = 0 ∧ 0 ≤ r ∧ r < M 468 18 ∧ 0 ≤ t ∧ t < (M 476 ((M 482 (r)))) ∧ z = (M 488 (6 * r + t))))))) 0 [(0, rv g 468), (1, iv r), (2, iv t)] [] M
  have i0 := I.rng
  have hr1 := hr.1
  have hr2 := hr.2
  have ht1 := ht.1
  have ht2 := ht.2
  refine x_aload_n 0 dX9_ended_0 rfl rfl ?_
  refine x_aload_n 0 dX9_ended_1 rfl rfl ?_
  refine x_iload_n 1 dX9_ended_2 rfl rfl ?_
  refine x_iload_n 2 dX9_ended_3 rfl rfl ?_
  refine x_callVIP (as := [iv r, iv t]) (rest := [rv g 468]) dX9_ended_4 vl9_196 k_468 (c_X9_isNoTest g M r t I ⟨by omega, by omega⟩ ⟨by omega, by omega⟩) rfl rfl (Nat.le_of_ble_eq_true rfl) ⟨Nat.le_of_ble_eq_true rfl, Nat.le_of_ble_eq_true rfl⟩ (fun z1 h2 => ?_)
  refine x_if_eq (tgt := 14) dX9_ended_7 (by decide) ⟨by omega, by omega⟩ (fun c4 => ?_) (fun c4 => ?_)
  · refine x_iconst (0) dX9_ended_14 rfl ?_
    refine x_callVIP (as := [iv 0]) (rest := []) dX9_ended_15 vl9_114 k_468 (c_X9_fails g M 0 (by omega) (by omega)) rfl rfl (Nat.le_of_ble_eq_true rfl) ⟨Nat.le_of_ble_eq_true rfl, Nat.le_of_ble_eq_true rfl⟩ (fun z5 h6 => ?_)
    refine x_if_eq (tgt := 26) dX9_ended_18 (by decide) ⟨by omega, by omega⟩ (fun c8 => ?_) (fun c8 => ?_)
    · have i1 := I.run r (by omega) (by omega)
      have i2 := I.prob (M 482 r) (by omega) (by omega)
      have i3 := I.res r t (by omega) (by omega) (by omega) (by omega)
      refine x_aload_n 0 dX9_ended_26 rfl rfl ?_
      refine x_getr (k := 26) (d := 20) dX9_ended_27 fl9_68 k_468 rfl (fun k9 => ?_)
      have k9 : isK 21 240 488 := k9
      show Ok g mX9_ended (rmd 3) (FQ g (pI (fun z M' => ∃ c, M' = up M 468 0 c ∧ ((c = 1 ∧ (r < 0 ∨ M 468 18 ≤ r ∨ (0 ≤ r ∧ r < M 468 18 ∧ (t < 0 ∨ (M 476 ((M 482 (r)))) ≤ t)))) ∨ (c = 0 ∧ 0 ≤ r ∧ r < M 468 18 ∧ 0 ≤ t ∧ t < (M 476 ((M 482 (r)))) ∧ z = (M 488 (6 * r + t))))))) 30 [(0, rv g 468), (1, iv r), (2, iv t)] [rv g 488] (up M 468 0 0)
      refine x_bipush (6) dX9_ended_30 rfl ?_
      refine x_iload_n 1 dX9_ended_32 rfl rfl ?_
      refine x_imul dX9_ended_33 ?_
      refine x_iload_n 2 dX9_ended_34 rfl rfl ?_
      refine x_iadd dX9_ended_35 ?_
      refine x_cald dX9_ended_36 k9 (by omega) (by omega) (by decide) (fun ⟨a10, a10'⟩ => ?_)
      have e11 : (up M 468 0 0) 488 ((6 * r) + t) = M 488 ((6 * r) + t) := (by simp (disch := omega) only [up_s, up_o, up_k])
      simp only [e11] at a10 a10' ⊢
      refine x_iret dX9_ended_37 rfl (iZ_char (by omega) (by omega)) ?_
      exact ⟨_, rfl, 0, rfl, by omega⟩
    · refine x_bipush (32) dX9_ended_21 rfl ?_
      refine x_goto (tgt := 37) dX9_ended_23 (by decide) ?_
      refine x_iret dX9_ended_37 rfl (iZ_char (by omega) (by omega)) ?_
      exact ⟨_, rfl, 0, rfl, by omega⟩
  · refine x_iconst (1) dX9_ended_10 rfl ?_
    refine x_goto (tgt := 15) dX9_ended_11 (by decide) ?_
    refine x_callVIP (as := [iv 1]) (rest := []) dX9_ended_15 vl9_114 k_468 (c_X9_fails g M 1 (by omega) (by omega)) rfl rfl (Nat.le_of_ble_eq_true rfl) ⟨Nat.le_of_ble_eq_true rfl, Nat.le_of_ble_eq_true rfl⟩ (fun z12 h13 => ?_)
    refine x_if_eq (tgt := 26) dX9_ended_18 (by decide) ⟨by omega, by omega⟩ (fun c15 => ?_) (fun c15 => ?_)
    · have i1 := I.run r (by omega) (by omega)
      have i2 := I.prob (M 482 r) (by omega) (by omega)
      have i3 := I.res r t (by omega) (by omega) (by omega) (by omega)
      refine x_aload_n 0 dX9_ended_26 rfl rfl ?_
      refine x_getr (k := 26) (d := 20) dX9_ended_27 fl9_68 k_468 rfl (fun k16 => ?_)
      have k16 : isK 21 240 488 := k16
      show Ok g mX9_ended (rmd 3) (FQ g (pI (fun z M' => ∃ c, M' = up M 468 0 c ∧ ((c = 1 ∧ (r < 0 ∨ M 468 18 ≤ r ∨ (0 ≤ r ∧ r < M 468 18 ∧ (t < 0 ∨ (M 476 ((M 482 (r)))) ≤ t)))) ∨ (c = 0 ∧ 0 ≤ r ∧ r < M 468 18 ∧ 0 ≤ t ∧ t < (M 476 ((M 482 (r)))) ∧ z = (M 488 (6 * r + t))))))) 30 [(0, rv g 468), (1, iv r), (2, iv t)] [rv g 488] (up M 468 0 1)
      refine x_bipush (6) dX9_ended_30 rfl ?_
      refine x_iload_n 1 dX9_ended_32 rfl rfl ?_
      refine x_imul dX9_ended_33 ?_
      refine x_iload_n 2 dX9_ended_34 rfl rfl ?_
      refine x_iadd dX9_ended_35 ?_
      refine x_cald dX9_ended_36 k16 (by omega) (by omega) (by decide) (fun ⟨a17, a17'⟩ => ?_)
      have e18 : (up M 468 0 1) 488 ((6 * r) + t) = M 488 ((6 * r) + t) := (by simp (disch := omega) only [up_s, up_o, up_k])
      simp only [e18] at a17 a17' ⊢
      refine x_iret dX9_ended_37 rfl (iZ_char (by omega) (by omega)) ?_
      exact ⟨_, rfl, 1, rfl, by omega⟩
    · refine x_bipush (32) dX9_ended_21 rfl ?_
      refine x_goto (tgt := 37) dX9_ended_23 (by decide) ?_
      refine x_iret dX9_ended_37 rfl (iZ_char (by omega) (by omega)) ?_
      exact ⟨_, rfl, 1, rfl, by omega⟩

set_option maxHeartbeats 600000 in
set_option maxRecDepth 100000 in
theorem c_X9_steps (g : GG) (M : Mem) (r t : Int) (I : RB M) (hr : rg r) (ht : rg t) : Ct g yX9_steps cX9_steps 3 (some .int) 3 [rv g 468, iv r, iv t] M (pI (fun z M' => ∃ c, M' = up M 468 0 c ∧ ((c = 1 ∧ (r < 0 ∨ M 468 18 ≤ r ∨ (0 ≤ r ∧ r < M 468 18 ∧ (t < 0 ∨ (M 476 ((M 482 (r)))) ≤ t)))) ∨ (c = 0 ∧ 0 ≤ r ∧ r < M 468 18 ∧ 0 ≤ t ∧ t < (M 476 ((M 482 (r)))) ∧ z = (M 489 (6 * r + t)))))) := by
  refine ct_of (by decide +kernel) (Nat.le_of_ble_eq_true rfl) ?_
  show Ok g mX9_steps (rmd 3) (FQ g (pI (fun z M' => ∃ c, M' = up M 468 0 c ∧ ((c = 1 ∧ (r < 0 ∨ M 468 18 ≤ r ∨ (0 ≤ r ∧ r < M 468 18 ∧ (t < 0 ∨ (M 476 ((M 482 (r)))) ≤ t)))) ∨ (c = 0 ∧ 0 ≤ r ∧ r < M 468 18 ∧ 0 ≤ t ∧ t < (M 476 ((M 482 (r)))) ∧ z = (M 489 (6 * r + t))))))) 0 [(0, rv g 468), (1, iv r), (2, iv t)] [] M
  have i0 := I.rng
  have hr1 := hr.1
  have hr2 := hr.2
  have ht1 := ht.1
  have ht2 := ht.2
  refine x_aload_n 0 dX9_steps_0 rfl rfl ?_
  refine x_aload_n 0 dX9_steps_1 rfl rfl ?_
  refine x_iload_n 1 dX9_steps_2 rfl rfl ?_
  refine x_iload_n 2 dX9_steps_3 rfl rfl ?_
  refine x_callVIP (as := [iv r, iv t]) (rest := [rv g 468]) dX9_steps_4 vl9_196 k_468 (c_X9_isNoTest g M r t I ⟨by omega, by omega⟩ ⟨by omega, by omega⟩) rfl rfl (Nat.le_of_ble_eq_true rfl) ⟨Nat.le_of_ble_eq_true rfl, Nat.le_of_ble_eq_true rfl⟩ (fun z1 h2 => ?_)
  refine x_if_eq (tgt := 14) dX9_steps_7 (by decide) ⟨by omega, by omega⟩ (fun c4 => ?_) (fun c4 => ?_)
  · refine x_iconst (0) dX9_steps_14 rfl ?_
    refine x_callVIP (as := [iv 0]) (rest := []) dX9_steps_15 vl9_114 k_468 (c_X9_fails g M 0 (by omega) (by omega)) rfl rfl (Nat.le_of_ble_eq_true rfl) ⟨Nat.le_of_ble_eq_true rfl, Nat.le_of_ble_eq_true rfl⟩ (fun z5 h6 => ?_)
    refine x_if_eq (tgt := 25) dX9_steps_18 (by decide) ⟨by omega, by omega⟩ (fun c8 => ?_) (fun c8 => ?_)
    · have i1 := I.run r (by omega) (by omega)
      have i2 := I.prob (M 482 r) (by omega) (by omega)
      have i3 := I.res r t (by omega) (by omega) (by omega) (by omega)
      refine x_aload_n 0 dX9_steps_25 rfl rfl ?_
      refine x_getr (k := 27) (d := 21) dX9_steps_26 fl9_71 k_468 rfl (fun k9 => ?_)
      have k9 : isK 20 240 489 := k9
      show Ok g mX9_steps (rmd 3) (FQ g (pI (fun z M' => ∃ c, M' = up M 468 0 c ∧ ((c = 1 ∧ (r < 0 ∨ M 468 18 ≤ r ∨ (0 ≤ r ∧ r < M 468 18 ∧ (t < 0 ∨ (M 476 ((M 482 (r)))) ≤ t)))) ∨ (c = 0 ∧ 0 ≤ r ∧ r < M 468 18 ∧ 0 ≤ t ∧ t < (M 476 ((M 482 (r)))) ∧ z = (M 489 (6 * r + t))))))) 29 [(0, rv g 468), (1, iv r), (2, iv t)] [rv g 489] (up M 468 0 0)
      refine x_bipush (6) dX9_steps_29 rfl ?_
      refine x_iload_n 1 dX9_steps_31 rfl rfl ?_
      refine x_imul dX9_steps_32 ?_
      refine x_iload_n 2 dX9_steps_33 rfl rfl ?_
      refine x_iadd dX9_steps_34 ?_
      refine x_iald dX9_steps_35 k9 (by omega) (by omega) (by decide) (fun ⟨a10, a10'⟩ => ?_)
      have e11 : (up M 468 0 0) 489 ((6 * r) + t) = M 489 ((6 * r) + t) := (by simp (disch := omega) only [up_s, up_o, up_k])
      simp only [e11] at a10 a10' ⊢
      refine x_iret dX9_steps_36 rfl rfl ?_
      exact ⟨_, rfl, 0, rfl, by omega⟩
    · refine x_iconst (0) dX9_steps_21 rfl ?_
      refine x_goto (tgt := 36) dX9_steps_22 (by decide) ?_
      refine x_iret dX9_steps_36 rfl rfl ?_
      exact ⟨_, rfl, 0, rfl, by omega⟩
  · refine x_iconst (1) dX9_steps_10 rfl ?_
    refine x_goto (tgt := 15) dX9_steps_11 (by decide) ?_
    refine x_callVIP (as := [iv 1]) (rest := []) dX9_steps_15 vl9_114 k_468 (c_X9_fails g M 1 (by omega) (by omega)) rfl rfl (Nat.le_of_ble_eq_true rfl) ⟨Nat.le_of_ble_eq_true rfl, Nat.le_of_ble_eq_true rfl⟩ (fun z12 h13 => ?_)
    refine x_if_eq (tgt := 25) dX9_steps_18 (by decide) ⟨by omega, by omega⟩ (fun c15 => ?_) (fun c15 => ?_)
    · have i1 := I.run r (by omega) (by omega)
      have i2 := I.prob (M 482 r) (by omega) (by omega)
      have i3 := I.res r t (by omega) (by omega) (by omega) (by omega)
      refine x_aload_n 0 dX9_steps_25 rfl rfl ?_
      refine x_getr (k := 27) (d := 21) dX9_steps_26 fl9_71 k_468 rfl (fun k16 => ?_)
      have k16 : isK 20 240 489 := k16
      show Ok g mX9_steps (rmd 3) (FQ g (pI (fun z M' => ∃ c, M' = up M 468 0 c ∧ ((c = 1 ∧ (r < 0 ∨ M 468 18 ≤ r ∨ (0 ≤ r ∧ r < M 468 18 ∧ (t < 0 ∨ (M 476 ((M 482 (r)))) ≤ t)))) ∨ (c = 0 ∧ 0 ≤ r ∧ r < M 468 18 ∧ 0 ≤ t ∧ t < (M 476 ((M 482 (r)))) ∧ z = (M 489 (6 * r + t))))))) 29 [(0, rv g 468), (1, iv r), (2, iv t)] [rv g 489] (up M 468 0 1)
      refine x_bipush (6) dX9_steps_29 rfl ?_
      refine x_iload_n 1 dX9_steps_31 rfl rfl ?_
      refine x_imul dX9_steps_32 ?_
      refine x_iload_n 2 dX9_steps_33 rfl rfl ?_
      refine x_iadd dX9_steps_34 ?_
      refine x_iald dX9_steps_35 k16 (by omega) (by omega) (by decide) (fun ⟨a17, a17'⟩ => ?_)
      have e18 : (up M 468 0 1) 489 ((6 * r) + t) = M 489 ((6 * r) + t) := (by simp (disch := omega) only [up_s, up_o, up_k])
      simp only [e18] at a17 a17' ⊢
      refine x_iret dX9_steps_36 rfl rfl ?_
      exact ⟨_, rfl, 1, rfl, by omega⟩
    · refine x_iconst (0) dX9_steps_21 rfl ?_
      refine x_goto (tgt := 36) dX9_steps_22 (by decide) ?_
      refine x_iret dX9_steps_36 rfl rfl ?_
      exact ⟨_, rfl, 1, rfl, by omega⟩

set_option maxHeartbeats 600000 in
set_option maxRecDepth 100000 in
theorem c_X9_outputs (g : GG) (M : Mem) (r t : Int) (I : RB M) (hr : rg r) (ht : rg t) : Ct g yX9_outputs cX9_outputs 3 (some .int) 3 [rv g 468, iv r, iv t] M (pI (fun z M' => ∃ c, M' = up M 468 0 c ∧ ((c = 1 ∧ (r < 0 ∨ M 468 18 ≤ r ∨ (0 ≤ r ∧ r < M 468 18 ∧ (t < 0 ∨ (M 476 ((M 482 (r)))) ≤ t)))) ∨ (c = 0 ∧ 0 ≤ r ∧ r < M 468 18 ∧ 0 ≤ t ∧ t < (M 476 ((M 482 (r)))) ∧ z = (M 491 (6 * r + t)))))) := by
  refine ct_of (by decide +kernel) (Nat.le_of_ble_eq_true rfl) ?_
  show Ok g mX9_outputs (rmd 3) (FQ g (pI (fun z M' => ∃ c, M' = up M 468 0 c ∧ ((c = 1 ∧ (r < 0 ∨ M 468 18 ≤ r ∨ (0 ≤ r ∧ r < M 468 18 ∧ (t < 0 ∨ (M 476 ((M 482 (r)))) ≤ t)))) ∨ (c = 0 ∧ 0 ≤ r ∧ r < M 468 18 ∧ 0 ≤ t ∧ t < (M 476 ((M 482 (r)))) ∧ z = (M 491 (6 * r + t))))))) 0 [(0, rv g 468), (1, iv r), (2, iv t)] [] M
  have i0 := I.rng
  have hr1 := hr.1
  have hr2 := hr.2
  have ht1 := ht.1
  have ht2 := ht.2
  refine x_aload_n 0 dX9_outputs_0 rfl rfl ?_
  refine x_aload_n 0 dX9_outputs_1 rfl rfl ?_
  refine x_iload_n 1 dX9_outputs_2 rfl rfl ?_
  refine x_iload_n 2 dX9_outputs_3 rfl rfl ?_
  refine x_callVIP (as := [iv r, iv t]) (rest := [rv g 468]) dX9_outputs_4 vl9_196 k_468 (c_X9_isNoTest g M r t I ⟨by omega, by omega⟩ ⟨by omega, by omega⟩) rfl rfl (Nat.le_of_ble_eq_true rfl) ⟨Nat.le_of_ble_eq_true rfl, Nat.le_of_ble_eq_true rfl⟩ (fun z1 h2 => ?_)
  refine x_if_eq (tgt := 14) dX9_outputs_7 (by decide) ⟨by omega, by omega⟩ (fun c4 => ?_) (fun c4 => ?_)
  · refine x_iconst (0) dX9_outputs_14 rfl ?_
    refine x_callVIP (as := [iv 0]) (rest := []) dX9_outputs_15 vl9_114 k_468 (c_X9_fails g M 0 (by omega) (by omega)) rfl rfl (Nat.le_of_ble_eq_true rfl) ⟨Nat.le_of_ble_eq_true rfl, Nat.le_of_ble_eq_true rfl⟩ (fun z5 h6 => ?_)
    refine x_if_eq (tgt := 25) dX9_outputs_18 (by decide) ⟨by omega, by omega⟩ (fun c8 => ?_) (fun c8 => ?_)
    · have i1 := I.run r (by omega) (by omega)
      have i2 := I.prob (M 482 r) (by omega) (by omega)
      have i3 := I.res r t (by omega) (by omega) (by omega) (by omega)
      refine x_aload_n 0 dX9_outputs_25 rfl rfl ?_
      refine x_getr (k := 29) (d := 23) dX9_outputs_26 fl9_77 k_468 rfl (fun k9 => ?_)
      have k9 : isK 20 240 491 := k9
      show Ok g mX9_outputs (rmd 3) (FQ g (pI (fun z M' => ∃ c, M' = up M 468 0 c ∧ ((c = 1 ∧ (r < 0 ∨ M 468 18 ≤ r ∨ (0 ≤ r ∧ r < M 468 18 ∧ (t < 0 ∨ (M 476 ((M 482 (r)))) ≤ t)))) ∨ (c = 0 ∧ 0 ≤ r ∧ r < M 468 18 ∧ 0 ≤ t ∧ t < (M 476 ((M 482 (r)))) ∧ z = (M 491 (6 * r + t))))))) 29 [(0, rv g 468), (1, iv r), (2, iv t)] [rv g 491] (up M 468 0 0)
      refine x_bipush (6) dX9_outputs_29 rfl ?_
      refine x_iload_n 1 dX9_outputs_31 rfl rfl ?_
      refine x_imul dX9_outputs_32 ?_
      refine x_iload_n 2 dX9_outputs_33 rfl rfl ?_
      refine x_iadd dX9_outputs_34 ?_
      refine x_iald dX9_outputs_35 k9 (by omega) (by omega) (by decide) (fun ⟨a10, a10'⟩ => ?_)
      have e11 : (up M 468 0 0) 491 ((6 * r) + t) = M 491 ((6 * r) + t) := (by simp (disch := omega) only [up_s, up_o, up_k])
      simp only [e11] at a10 a10' ⊢
      refine x_iret dX9_outputs_36 rfl rfl ?_
      exact ⟨_, rfl, 0, rfl, by omega⟩
    · refine x_iconst (0) dX9_outputs_21 rfl ?_
      refine x_goto (tgt := 36) dX9_outputs_22 (by decide) ?_
      refine x_iret dX9_outputs_36 rfl rfl ?_
      exact ⟨_, rfl, 0, rfl, by omega⟩
  · refine x_iconst (1) dX9_outputs_10 rfl ?_
    refine x_goto (tgt := 15) dX9_outputs_11 (by decide) ?_
    refine x_callVIP (as := [iv 1]) (rest := []) dX9_outputs_15 vl9_114 k_468 (c_X9_fails g M 1 (by omega) (by omega)) rfl rfl (Nat.le_of_ble_eq_true rfl) ⟨Nat.le_of_ble_eq_true rfl, Nat.le_of_ble_eq_true rfl⟩ (fun z12 h13 => ?_)
    refine x_if_eq (tgt := 25) dX9_outputs_18 (by decide) ⟨by omega, by omega⟩ (fun c15 => ?_) (fun c15 => ?_)
    · have i1 := I.run r (by omega) (by omega)
      have i2 := I.prob (M 482 r) (by omega) (by omega)
      have i3 := I.res r t (by omega) (by omega) (by omega) (by omega)
      refine x_aload_n 0 dX9_outputs_25 rfl rfl ?_
      refine x_getr (k := 29) (d := 23) dX9_outputs_26 fl9_77 k_468 rfl (fun k16 => ?_)
      have k16 : isK 20 240 491 := k16
      show Ok g mX9_outputs (rmd 3) (FQ g (pI (fun z M' => ∃ c, M' = up M 468 0 c ∧ ((c = 1 ∧ (r < 0 ∨ M 468 18 ≤ r ∨ (0 ≤ r ∧ r < M 468 18 ∧ (t < 0 ∨ (M 476 ((M 482 (r)))) ≤ t)))) ∨ (c = 0 ∧ 0 ≤ r ∧ r < M 468 18 ∧ 0 ≤ t ∧ t < (M 476 ((M 482 (r)))) ∧ z = (M 491 (6 * r + t))))))) 29 [(0, rv g 468), (1, iv r), (2, iv t)] [rv g 491] (up M 468 0 1)
      refine x_bipush (6) dX9_outputs_29 rfl ?_
      refine x_iload_n 1 dX9_outputs_31 rfl rfl ?_
      refine x_imul dX9_outputs_32 ?_
      refine x_iload_n 2 dX9_outputs_33 rfl rfl ?_
      refine x_iadd dX9_outputs_34 ?_
      refine x_iald dX9_outputs_35 k16 (by omega) (by omega) (by decide) (fun ⟨a17, a17'⟩ => ?_)
      have e18 : (up M 468 0 1) 491 ((6 * r) + t) = M 491 ((6 * r) + t) := (by simp (disch := omega) only [up_s, up_o, up_k])
      simp only [e18] at a17 a17' ⊢
      refine x_iret dX9_outputs_36 rfl rfl ?_
      exact ⟨_, rfl, 1, rfl, by omega⟩
    · refine x_iconst (0) dX9_outputs_21 rfl ?_
      refine x_goto (tgt := 36) dX9_outputs_22 (by decide) ?_
      refine x_iret dX9_outputs_36 rfl rfl ?_
      exact ⟨_, rfl, 1, rfl, by omega⟩

set_option maxHeartbeats 600000 in
set_option maxRecDepth 100000 in
theorem c_X9_output (g : GG) (M : Mem) (r t k : Int) (I : RB M) (hr : rg r) (ht : rg t) (hk : rg k) : Ct g yX9_output cX9_output 4 (some .int) 3 [rv g 468, iv r, iv t, iv k] M (pI (fun z M' => ∃ c, M' = up M 468 0 c ∧ ((c = 1 ∧ (r < 0 ∨ M 468 18 ≤ r ∨ (0 ≤ r ∧ r < M 468 18 ∧ (t < 0 ∨ (M 476 ((M 482 (r)))) ≤ t)))) ∨ (0 ≤ r ∧ r < M 468 18 ∧ 0 ≤ t ∧ t < (M 476 ((M 482 (r)))) ∧ ((c = 2 ∧ (k < 0 ∨ (M 491 (6 * r + t)) ≤ k)) ∨ (c = 0 ∧ 0 ≤ k ∧ k < (M 491 (6 * r + t)) ∧ z = (M 490 (36 * r + 6 * t + k)))))))) := by
  refine ct_of (by decide +kernel) (Nat.le_of_ble_eq_true rfl) ?_
  show Ok g mX9_output (rmd 3) (FQ g (pI (fun z M' => ∃ c, M' = up M 468 0 c ∧ ((c = 1 ∧ (r < 0 ∨ M 468 18 ≤ r ∨ (0 ≤ r ∧ r < M 468 18 ∧ (t < 0 ∨ (M 476 ((M 482 (r)))) ≤ t)))) ∨ (0 ≤ r ∧ r < M 468 18 ∧ 0 ≤ t ∧ t < (M 476 ((M 482 (r)))) ∧ ((c = 2 ∧ (k < 0 ∨ (M 491 (6 * r + t)) ≤ k)) ∨ (c = 0 ∧ 0 ≤ k ∧ k < (M 491 (6 * r + t)) ∧ z = (M 490 (36 * r + 6 * t + k))))))))) 0 [(0, rv g 468), (1, iv r), (2, iv t), (3, iv k)] [] M
  have i0 := I.rng
  have hr1 := hr.1
  have hr2 := hr.2
  have ht1 := ht.1
  have ht2 := ht.2
  have hk1 := hk.1
  have hk2 := hk.2
  refine x_aload_n 0 dX9_output_0 rfl rfl ?_
  refine x_aload_n 0 dX9_output_1 rfl rfl ?_
  refine x_iload_n 1 dX9_output_2 rfl rfl ?_
  refine x_iload_n 2 dX9_output_3 rfl rfl ?_
  refine x_callVIP (as := [iv r, iv t]) (rest := [rv g 468]) dX9_output_4 vl9_196 k_468 (c_X9_isNoTest g M r t I ⟨by omega, by omega⟩ ⟨by omega, by omega⟩) rfl rfl (Nat.le_of_ble_eq_true rfl) ⟨Nat.le_of_ble_eq_true rfl, Nat.le_of_ble_eq_true rfl⟩ (fun z1 h2 => ?_)
  refine x_if_eq (tgt := 14) dX9_output_7 (by decide) ⟨by omega, by omega⟩ (fun c4 => ?_) (fun c4 => ?_)
  · have i1 := I.run r (by omega) (by omega)
    have i2 := I.prob (M 482 r) (by omega) (by omega)
    have i3 := I.res r t (by omega) (by omega) (by omega) (by omega)
    refine x_iload_n 3 dX9_output_14 rfl rfl ?_
    refine x_iconst (0) dX9_output_15 rfl ?_
    refine x_aload_n 0 dX9_output_16 rfl rfl ?_
    refine x_getr (k := 29) (d := 23) dX9_output_17 fl9_77 k_468 rfl (fun k5 => ?_)
    have k5 : isK 20 240 491 := k5
    show Ok g mX9_output (rmd 3) (FQ g (pI (fun z M' => ∃ c, M' = up M 468 0 c ∧ ((c = 1 ∧ (r < 0 ∨ M 468 18 ≤ r ∨ (0 ≤ r ∧ r < M 468 18 ∧ (t < 0 ∨ (M 476 ((M 482 (r)))) ≤ t)))) ∨ (0 ≤ r ∧ r < M 468 18 ∧ 0 ≤ t ∧ t < (M 476 ((M 482 (r)))) ∧ ((c = 2 ∧ (k < 0 ∨ (M 491 (6 * r + t)) ≤ k)) ∨ (c = 0 ∧ 0 ≤ k ∧ k < (M 491 (6 * r + t)) ∧ z = (M 490 (36 * r + 6 * t + k))))))))) 20 [(0, rv g 468), (1, iv r), (2, iv t), (3, iv k)] [rv g 491, iv 0, iv k, rv g 468] M
    refine x_bipush (6) dX9_output_20 rfl ?_
    refine x_iload_n 1 dX9_output_22 rfl rfl ?_
    refine x_imul dX9_output_23 ?_
    refine x_iload_n 2 dX9_output_24 rfl rfl ?_
    refine x_iadd dX9_output_25 ?_
    refine x_iald dX9_output_26 k5 (by omega) (by omega) (by decide) (fun ⟨a6, a6'⟩ => ?_)
    refine x_iconst (1) dX9_output_27 rfl ?_
    refine x_isub dX9_output_28 ?_
    refine x_callSIP (as := [iv k, iv 0, iv ((M 491 ((6 * r) + t)) - 1)]) (rest := [rv g 468]) dX9_output_29 sl9_103 (c_X9_in g M k 0 ((M 491 ((6 * r) + t)) - 1) ⟨by omega, by omega⟩ ⟨by omega, by omega⟩ ⟨by omega, by omega⟩) rfl rfl (Nat.le_of_ble_eq_true rfl) ⟨Nat.le_of_ble_eq_true rfl, Nat.le_of_ble_eq_true rfl⟩ (fun z7 h8 => ?_)
    refine x_if_ne (tgt := 39) dX9_output_32 (by decide) ⟨by omega, by omega⟩ (fun c10 => ?_) (fun c10 => ?_)
    · refine x_iconst (0) dX9_output_39 rfl ?_
      refine x_callVIP (as := [iv 0]) (rest := []) dX9_output_40 vl9_114 k_468 (c_X9_fails g M 0 (by omega) (by omega)) rfl rfl (Nat.le_of_ble_eq_true rfl) ⟨Nat.le_of_ble_eq_true rfl, Nat.le_of_ble_eq_true rfl⟩ (fun z11 h12 => ?_)
      refine x_if_eq (tgt := 50) dX9_output_43 (by decide) ⟨by omega, by omega⟩ (fun c14 => ?_) (fun c14 => ?_)
      · refine x_aload_n 0 dX9_output_50 rfl rfl ?_
        refine x_getr (k := 28) (d := 22) dX9_output_51 fl9_74 k_468 rfl (fun k15 => ?_)
        have k15 : isK 20 1440 490 := k15
        show Ok g mX9_output (rmd 3) (FQ g (pI (fun z M' => ∃ c, M' = up M 468 0 c ∧ ((c = 1 ∧ (r < 0 ∨ M 468 18 ≤ r ∨ (0 ≤ r ∧ r < M 468 18 ∧ (t < 0 ∨ (M 476 ((M 482 (r)))) ≤ t)))) ∨ (0 ≤ r ∧ r < M 468 18 ∧ 0 ≤ t ∧ t < (M 476 ((M 482 (r)))) ∧ ((c = 2 ∧ (k < 0 ∨ (M 491 (6 * r + t)) ≤ k)) ∨ (c = 0 ∧ 0 ≤ k ∧ k < (M 491 (6 * r + t)) ∧ z = (M 490 (36 * r + 6 * t + k))))))))) 54 [(0, rv g 468), (1, iv r), (2, iv t), (3, iv k)] [rv g 490] (up M 468 0 0)
        refine x_bipush (36) dX9_output_54 rfl ?_
        refine x_iload_n 1 dX9_output_56 rfl rfl ?_
        refine x_imul dX9_output_57 ?_
        refine x_bipush (6) dX9_output_58 rfl ?_
        refine x_iload_n 2 dX9_output_60 rfl rfl ?_
        refine x_imul dX9_output_61 ?_
        refine x_iadd dX9_output_62 ?_
        refine x_iload_n 3 dX9_output_63 rfl rfl ?_
        refine x_iadd dX9_output_64 ?_
        refine x_iald dX9_output_65 k15 (by omega) (by omega) (by decide) (fun ⟨a16, a16'⟩ => ?_)
        have e17 : (up M 468 0 0) 490 (((36 * r) + (6 * t)) + k) = M 490 (((36 * r) + (6 * t)) + k) := (by simp (disch := omega) only [up_s, up_o, up_k])
        simp only [e17] at a16 a16' ⊢
        refine x_iret dX9_output_66 rfl rfl ?_
        exact ⟨_, rfl, 0, rfl, by omega⟩
      · refine x_iconst (0) dX9_output_46 rfl ?_
        refine x_goto (tgt := 66) dX9_output_47 (by decide) ?_
        refine x_iret dX9_output_66 rfl rfl ?_
        exact ⟨_, rfl, 0, rfl, by omega⟩
    · refine x_iconst (2) dX9_output_35 rfl ?_
      refine x_goto (tgt := 40) dX9_output_36 (by decide) ?_
      refine x_callVIP (as := [iv 2]) (rest := []) dX9_output_40 vl9_114 k_468 (c_X9_fails g M 2 (by omega) (by omega)) rfl rfl (Nat.le_of_ble_eq_true rfl) ⟨Nat.le_of_ble_eq_true rfl, Nat.le_of_ble_eq_true rfl⟩ (fun z18 h19 => ?_)
      refine x_if_eq (tgt := 50) dX9_output_43 (by decide) ⟨by omega, by omega⟩ (fun c21 => ?_) (fun c21 => ?_)
      · refine x_aload_n 0 dX9_output_50 rfl rfl ?_
        refine x_getr (k := 28) (d := 22) dX9_output_51 fl9_74 k_468 rfl (fun k22 => ?_)
        have k22 : isK 20 1440 490 := k22
        show Ok g mX9_output (rmd 3) (FQ g (pI (fun z M' => ∃ c, M' = up M 468 0 c ∧ ((c = 1 ∧ (r < 0 ∨ M 468 18 ≤ r ∨ (0 ≤ r ∧ r < M 468 18 ∧ (t < 0 ∨ (M 476 ((M 482 (r)))) ≤ t)))) ∨ (0 ≤ r ∧ r < M 468 18 ∧ 0 ≤ t ∧ t < (M 476 ((M 482 (r)))) ∧ ((c = 2 ∧ (k < 0 ∨ (M 491 (6 * r + t)) ≤ k)) ∨ (c = 0 ∧ 0 ≤ k ∧ k < (M 491 (6 * r + t)) ∧ z = (M 490 (36 * r + 6 * t + k))))))))) 54 [(0, rv g 468), (1, iv r), (2, iv t), (3, iv k)] [rv g 490] (up M 468 0 2)
        refine x_bipush (36) dX9_output_54 rfl ?_
        refine x_iload_n 1 dX9_output_56 rfl rfl ?_
        refine x_imul dX9_output_57 ?_
        refine x_bipush (6) dX9_output_58 rfl ?_
        refine x_iload_n 2 dX9_output_60 rfl rfl ?_
        refine x_imul dX9_output_61 ?_
        refine x_iadd dX9_output_62 ?_
        refine x_iload_n 3 dX9_output_63 rfl rfl ?_
        refine x_iadd dX9_output_64 ?_
        refine x_iald dX9_output_65 k22 (by omega) (by omega) (by decide) (fun ⟨a23, a23'⟩ => ?_)
        have e24 : (up M 468 0 2) 490 (((36 * r) + (6 * t)) + k) = M 490 (((36 * r) + (6 * t)) + k) := (by simp (disch := omega) only [up_s, up_o, up_k])
        simp only [e24] at a23 a23' ⊢
        refine x_iret dX9_output_66 rfl rfl ?_
        exact ⟨_, rfl, 2, rfl, by omega⟩
      · refine x_iconst (0) dX9_output_46 rfl ?_
        refine x_goto (tgt := 66) dX9_output_47 (by decide) ?_
        refine x_iret dX9_output_66 rfl rfl ?_
        exact ⟨_, rfl, 2, rfl, by omega⟩
  · refine x_iconst (1) dX9_output_10 rfl ?_
    refine x_goto (tgt := 40) dX9_output_11 (by decide) ?_
    refine x_callVIP (as := [iv 1]) (rest := []) dX9_output_40 vl9_114 k_468 (c_X9_fails g M 1 (by omega) (by omega)) rfl rfl (Nat.le_of_ble_eq_true rfl) ⟨Nat.le_of_ble_eq_true rfl, Nat.le_of_ble_eq_true rfl⟩ (fun z25 h26 => ?_)
    refine x_if_eq (tgt := 50) dX9_output_43 (by decide) ⟨by omega, by omega⟩ (fun c28 => ?_) (fun c28 => ?_)
    · refine x_aload_n 0 dX9_output_50 rfl rfl ?_
      refine x_getr (k := 28) (d := 22) dX9_output_51 fl9_74 k_468 rfl (fun k29 => ?_)
      have k29 : isK 20 1440 490 := k29
      show Ok g mX9_output (rmd 3) (FQ g (pI (fun z M' => ∃ c, M' = up M 468 0 c ∧ ((c = 1 ∧ (r < 0 ∨ M 468 18 ≤ r ∨ (0 ≤ r ∧ r < M 468 18 ∧ (t < 0 ∨ (M 476 ((M 482 (r)))) ≤ t)))) ∨ (0 ≤ r ∧ r < M 468 18 ∧ 0 ≤ t ∧ t < (M 476 ((M 482 (r)))) ∧ ((c = 2 ∧ (k < 0 ∨ (M 491 (6 * r + t)) ≤ k)) ∨ (c = 0 ∧ 0 ≤ k ∧ k < (M 491 (6 * r + t)) ∧ z = (M 490 (36 * r + 6 * t + k))))))))) 54 [(0, rv g 468), (1, iv r), (2, iv t), (3, iv k)] [rv g 490] (up M 468 0 1)
      refine x_bipush (36) dX9_output_54 rfl ?_
      refine x_iload_n 1 dX9_output_56 rfl rfl ?_
      refine x_imul dX9_output_57 ?_
      refine x_bipush (6) dX9_output_58 rfl ?_
      refine x_iload_n 2 dX9_output_60 rfl rfl ?_
      refine x_imul dX9_output_61 ?_
      refine x_iadd dX9_output_62 ?_
      refine x_iload_n 3 dX9_output_63 rfl rfl ?_
      refine x_iadd dX9_output_64 ?_
      refine x_iald dX9_output_65 k29 (by omega) (by omega) (by decide) (fun ⟨a30, a30'⟩ => ?_)
      have e31 : (up M 468 0 1) 490 (((36 * r) + (6 * t)) + k) = M 490 (((36 * r) + (6 * t)) + k) := (by simp (disch := omega) only [up_s, up_o, up_k])
      simp only [e31] at a30 a30' ⊢
      refine x_iret dX9_output_66 rfl rfl ?_
      exact ⟨_, rfl, 1, rfl, by omega⟩
    · refine x_iconst (0) dX9_output_46 rfl ?_
      refine x_goto (tgt := 66) dX9_output_47 (by decide) ?_
      refine x_iret dX9_output_66 rfl rfl ?_
      exact ⟨_, rfl, 1, rfl, by omega⟩

set_option maxHeartbeats 600000 in
set_option maxRecDepth 100000 in
theorem c_X9_inStock (g : GG) (M : Mem) (q : Int) (I : RB M) (hq : rg q) : Ct g yX9_inStock cX9_inStock 2 (some .int) 3 [rv g 468, iv q] M (pI (fun z M' => ∃ c, M' = up M 468 0 c ∧ ((c = 1 ∧ (q < 0 ∨ 3 < q)) ∨ (c = 0 ∧ 0 ≤ q ∧ q ≤ 3 ∧ z = (M 495 (q)))))) := by
  refine ct_of (by decide +kernel) (Nat.le_of_ble_eq_true rfl) ?_
  show Ok g mX9_inStock (rmd 3) (FQ g (pI (fun z M' => ∃ c, M' = up M 468 0 c ∧ ((c = 1 ∧ (q < 0 ∨ 3 < q)) ∨ (c = 0 ∧ 0 ≤ q ∧ q ≤ 3 ∧ z = (M 495 (q))))))) 0 [(0, rv g 468), (1, iv q)] [] M
  have i0 := I.rng
  have hq1 := hq.1
  have hq2 := hq.2
  refine x_aload_n 0 dX9_inStock_0 rfl rfl ?_
  refine x_iload_n 1 dX9_inStock_1 rfl rfl ?_
  refine x_callSIP (as := [iv q]) (rest := [rv g 468]) dX9_inStock_2 sl9_206 (c_X9_isNoColour g M q ⟨by omega, by omega⟩) rfl rfl (Nat.le_of_ble_eq_true rfl) ⟨Nat.le_of_ble_eq_true rfl, Nat.le_of_ble_eq_true rfl⟩ (fun z1 h2 => ?_)
  refine x_if_eq (tgt := 12) dX9_inStock_5 (by decide) ⟨by omega, by omega⟩ (fun c4 => ?_) (fun c4 => ?_)
  · refine x_iconst (0) dX9_inStock_12 rfl ?_
    refine x_callVIP (as := [iv 0]) (rest := []) dX9_inStock_13 vl9_114 k_468 (c_X9_fails g M 0 (by omega) (by omega)) rfl rfl (Nat.le_of_ble_eq_true rfl) ⟨Nat.le_of_ble_eq_true rfl, Nat.le_of_ble_eq_true rfl⟩ (fun z5 h6 => ?_)
    refine x_if_eq (tgt := 23) dX9_inStock_16 (by decide) ⟨by omega, by omega⟩ (fun c8 => ?_) (fun c8 => ?_)
    · refine x_aload_n 0 dX9_inStock_23 rfl rfl ?_
      refine x_getr (k := 33) (d := 27) dX9_inStock_24 fl9_89 k_468 rfl (fun k9 => ?_)
      have k9 : isK 20 4 495 := k9
      show Ok g mX9_inStock (rmd 3) (FQ g (pI (fun z M' => ∃ c, M' = up M 468 0 c ∧ ((c = 1 ∧ (q < 0 ∨ 3 < q)) ∨ (c = 0 ∧ 0 ≤ q ∧ q ≤ 3 ∧ z = (M 495 (q))))))) 27 [(0, rv g 468), (1, iv q)] [rv g 495] (up M 468 0 0)
      refine x_iload_n 1 dX9_inStock_27 rfl rfl ?_
      refine x_iald dX9_inStock_28 k9 (by omega) (by omega) (by decide) (fun ⟨a10, a10'⟩ => ?_)
      have e11 : (up M 468 0 0) 495 q = M 495 q := (by simp (disch := omega) only [up_s, up_o, up_k])
      simp only [e11] at a10 a10' ⊢
      refine x_iret dX9_inStock_29 rfl rfl ?_
      exact ⟨_, rfl, 0, rfl, by omega⟩
    · refine x_iconst (0) dX9_inStock_19 rfl ?_
      refine x_goto (tgt := 29) dX9_inStock_20 (by decide) ?_
      refine x_iret dX9_inStock_29 rfl rfl ?_
      exact ⟨_, rfl, 0, rfl, by omega⟩
  · refine x_iconst (1) dX9_inStock_8 rfl ?_
    refine x_goto (tgt := 13) dX9_inStock_9 (by decide) ?_
    refine x_callVIP (as := [iv 1]) (rest := []) dX9_inStock_13 vl9_114 k_468 (c_X9_fails g M 1 (by omega) (by omega)) rfl rfl (Nat.le_of_ble_eq_true rfl) ⟨Nat.le_of_ble_eq_true rfl, Nat.le_of_ble_eq_true rfl⟩ (fun z12 h13 => ?_)
    refine x_if_eq (tgt := 23) dX9_inStock_16 (by decide) ⟨by omega, by omega⟩ (fun c15 => ?_) (fun c15 => ?_)
    · refine x_aload_n 0 dX9_inStock_23 rfl rfl ?_
      refine x_getr (k := 33) (d := 27) dX9_inStock_24 fl9_89 k_468 rfl (fun k16 => ?_)
      have k16 : isK 20 4 495 := k16
      show Ok g mX9_inStock (rmd 3) (FQ g (pI (fun z M' => ∃ c, M' = up M 468 0 c ∧ ((c = 1 ∧ (q < 0 ∨ 3 < q)) ∨ (c = 0 ∧ 0 ≤ q ∧ q ≤ 3 ∧ z = (M 495 (q))))))) 27 [(0, rv g 468), (1, iv q)] [rv g 495] (up M 468 0 1)
      refine x_iload_n 1 dX9_inStock_27 rfl rfl ?_
      refine x_iald dX9_inStock_28 k16 (by omega) (by omega) (by decide) (fun ⟨a17, a17'⟩ => ?_)
      have e18 : (up M 468 0 1) 495 q = M 495 q := (by simp (disch := omega) only [up_s, up_o, up_k])
      simp only [e18] at a17 a17' ⊢
      refine x_iret dX9_inStock_29 rfl rfl ?_
      exact ⟨_, rfl, 1, rfl, by omega⟩
    · refine x_iconst (0) dX9_inStock_19 rfl ?_
      refine x_goto (tgt := 29) dX9_inStock_20 (by decide) ?_
      refine x_iret dX9_inStock_29 rfl rfl ?_
      exact ⟨_, rfl, 1, rfl, by omega⟩

set_option maxHeartbeats 600000 in
set_option maxRecDepth 100000 in
theorem c_X9_balloon (g : GG) (M : Mem) (t p : Int) (I : RB M) (ht : rg t) (hp : rg p) : Ct g yX9_balloon cX9_balloon 3 (some .char) 3 [rv g 468, iv t, iv p] M (pI (fun z M' => ∃ c, M' = up M 468 0 c ∧ ((c = 1 ∧ (t < 0 ∨ M 468 17 ≤ t ∨ p < 0 ∨ M 468 9 ≤ p)) ∨ (c = 0 ∧ 0 ≤ t ∧ t < M 468 17 ∧ 0 ≤ p ∧ p < M 468 9 ∧ z = (M 493 (5 * t + p)))))) := by
  refine ct_of (by decide +kernel) (Nat.le_of_ble_eq_true rfl) ?_
  show Ok g mX9_balloon (rmd 3) (FQ g (pI (fun z M' => ∃ c, M' = up M 468 0 c ∧ ((c = 1 ∧ (t < 0 ∨ M 468 17 ≤ t ∨ p < 0 ∨ M 468 9 ≤ p)) ∨ (c = 0 ∧ 0 ≤ t ∧ t < M 468 17 ∧ 0 ≤ p ∧ p < M 468 9 ∧ z = (M 493 (5 * t + p))))))) 0 [(0, rv g 468), (1, iv t), (2, iv p)] [] M
  have i0 := I.rng
  have ht1 := ht.1
  have ht2 := ht.2
  have hp1 := hp.1
  have hp2 := hp.2
  refine x_aload_n 0 dX9_balloon_0 rfl rfl ?_
  refine x_aload_n 0 dX9_balloon_1 rfl rfl ?_
  refine x_iload_n 1 dX9_balloon_2 rfl rfl ?_
  refine x_callVIP (as := [iv t]) (rest := [rv g 468]) dX9_balloon_3 vl9_190 k_468 (c_X9_isNoTeam g M t ⟨by omega, by omega⟩ (by omega) (by omega)) rfl rfl (Nat.le_of_ble_eq_true rfl) ⟨Nat.le_of_ble_eq_true rfl, Nat.le_of_ble_eq_true rfl⟩ (fun z1 h2 => ?_)
  refine x_if_ne (tgt := 17) dX9_balloon_6 (by decide) ⟨by omega, by omega⟩ (fun c4 => ?_) (fun c4 => ?_)
  · refine x_iconst (1) dX9_balloon_17 rfl ?_
    refine x_goto (tgt := 22) dX9_balloon_18 (by decide) ?_
    refine x_callVIP (as := [iv 1]) (rest := []) dX9_balloon_22 vl9_114 k_468 (c_X9_fails g M 1 (by omega) (by omega)) rfl rfl (Nat.le_of_ble_eq_true rfl) ⟨Nat.le_of_ble_eq_true rfl, Nat.le_of_ble_eq_true rfl⟩ (fun z5 h6 => ?_)
    refine x_if_eq (tgt := 33) dX9_balloon_25 (by decide) ⟨by omega, by omega⟩ (fun c8 => ?_) (fun c8 => ?_)
    · have i3 := I.bal t p (by omega) (by omega) (by omega) (by omega)
      refine x_aload_n 0 dX9_balloon_33 rfl rfl ?_
      refine x_getr (k := 31) (d := 25) dX9_balloon_34 fl9_83 k_468 rfl (fun k9 => ?_)
      have k9 : isK 21 40 493 := k9
      show Ok g mX9_balloon (rmd 3) (FQ g (pI (fun z M' => ∃ c, M' = up M 468 0 c ∧ ((c = 1 ∧ (t < 0 ∨ M 468 17 ≤ t ∨ p < 0 ∨ M 468 9 ≤ p)) ∨ (c = 0 ∧ 0 ≤ t ∧ t < M 468 17 ∧ 0 ≤ p ∧ p < M 468 9 ∧ z = (M 493 (5 * t + p))))))) 37 [(0, rv g 468), (1, iv t), (2, iv p)] [rv g 493] (up M 468 0 1)
      refine x_iconst (5) dX9_balloon_37 rfl ?_
      refine x_iload_n 1 dX9_balloon_38 rfl rfl ?_
      refine x_imul dX9_balloon_39 ?_
      refine x_iload_n 2 dX9_balloon_40 rfl rfl ?_
      refine x_iadd dX9_balloon_41 ?_
      refine x_cald dX9_balloon_42 k9 (by omega) (by omega) (by decide) (fun ⟨a10, a10'⟩ => ?_)
      have e11 : (up M 468 0 1) 493 ((5 * t) + p) = M 493 ((5 * t) + p) := (by simp (disch := omega) only [up_s, up_o, up_k])
      simp only [e11] at a10 a10' ⊢
      refine x_iret dX9_balloon_43 rfl (iZ_char (by omega) (by omega)) ?_
      exact ⟨_, rfl, 1, rfl, by omega⟩
    · refine x_bipush (32) dX9_balloon_28 rfl ?_
      refine x_goto (tgt := 43) dX9_balloon_30 (by decide) ?_
      refine x_iret dX9_balloon_43 rfl (iZ_char (by omega) (by omega)) ?_
      exact ⟨_, rfl, 1, rfl, by omega⟩
  · refine x_aload_n 0 dX9_balloon_9 rfl rfl ?_
    refine x_iload_n 2 dX9_balloon_10 rfl rfl ?_
    refine x_callVIP (as := [iv p]) (rest := [rv g 468]) dX9_balloon_11 vl9_133 k_468 (c_X9_isNoProblem g M p ⟨by omega, by omega⟩ (by omega) (by omega)) rfl rfl (Nat.le_of_ble_eq_true rfl) ⟨Nat.le_of_ble_eq_true rfl, Nat.le_of_ble_eq_true rfl⟩ (fun z12 h13 => ?_)
    refine x_if_eq (tgt := 21) dX9_balloon_14 (by decide) ⟨by omega, by omega⟩ (fun c15 => ?_) (fun c15 => ?_)
    · refine x_iconst (0) dX9_balloon_21 rfl ?_
      refine x_callVIP (as := [iv 0]) (rest := []) dX9_balloon_22 vl9_114 k_468 (c_X9_fails g M 0 (by omega) (by omega)) rfl rfl (Nat.le_of_ble_eq_true rfl) ⟨Nat.le_of_ble_eq_true rfl, Nat.le_of_ble_eq_true rfl⟩ (fun z16 h17 => ?_)
      refine x_if_eq (tgt := 33) dX9_balloon_25 (by decide) ⟨by omega, by omega⟩ (fun c19 => ?_) (fun c19 => ?_)
      · have i3 := I.bal t p (by omega) (by omega) (by omega) (by omega)
        refine x_aload_n 0 dX9_balloon_33 rfl rfl ?_
        refine x_getr (k := 31) (d := 25) dX9_balloon_34 fl9_83 k_468 rfl (fun k20 => ?_)
        have k20 : isK 21 40 493 := k20
        show Ok g mX9_balloon (rmd 3) (FQ g (pI (fun z M' => ∃ c, M' = up M 468 0 c ∧ ((c = 1 ∧ (t < 0 ∨ M 468 17 ≤ t ∨ p < 0 ∨ M 468 9 ≤ p)) ∨ (c = 0 ∧ 0 ≤ t ∧ t < M 468 17 ∧ 0 ≤ p ∧ p < M 468 9 ∧ z = (M 493 (5 * t + p))))))) 37 [(0, rv g 468), (1, iv t), (2, iv p)] [rv g 493] (up M 468 0 0)
        refine x_iconst (5) dX9_balloon_37 rfl ?_
        refine x_iload_n 1 dX9_balloon_38 rfl rfl ?_
        refine x_imul dX9_balloon_39 ?_
        refine x_iload_n 2 dX9_balloon_40 rfl rfl ?_
        refine x_iadd dX9_balloon_41 ?_
        refine x_cald dX9_balloon_42 k20 (by omega) (by omega) (by decide) (fun ⟨a21, a21'⟩ => ?_)
        have e22 : (up M 468 0 0) 493 ((5 * t) + p) = M 493 ((5 * t) + p) := (by simp (disch := omega) only [up_s, up_o, up_k])
        simp only [e22] at a21 a21' ⊢
        refine x_iret dX9_balloon_43 rfl (iZ_char (by omega) (by omega)) ?_
        exact ⟨_, rfl, 0, rfl, by omega⟩
      · refine x_bipush (32) dX9_balloon_28 rfl ?_
        refine x_goto (tgt := 43) dX9_balloon_30 (by decide) ?_
        refine x_iret dX9_balloon_43 rfl (iZ_char (by omega) (by omega)) ?_
        exact ⟨_, rfl, 0, rfl, by omega⟩
    · refine x_iconst (1) dX9_balloon_17 rfl ?_
      refine x_goto (tgt := 22) dX9_balloon_18 (by decide) ?_
      refine x_callVIP (as := [iv 1]) (rest := []) dX9_balloon_22 vl9_114 k_468 (c_X9_fails g M 1 (by omega) (by omega)) rfl rfl (Nat.le_of_ble_eq_true rfl) ⟨Nat.le_of_ble_eq_true rfl, Nat.le_of_ble_eq_true rfl⟩ (fun z23 h24 => ?_)
      refine x_if_eq (tgt := 33) dX9_balloon_25 (by decide) ⟨by omega, by omega⟩ (fun c26 => ?_) (fun c26 => ?_)
      · have i3 := I.bal t p (by omega) (by omega) (by omega) (by omega)
        refine x_aload_n 0 dX9_balloon_33 rfl rfl ?_
        refine x_getr (k := 31) (d := 25) dX9_balloon_34 fl9_83 k_468 rfl (fun k27 => ?_)
        have k27 : isK 21 40 493 := k27
        show Ok g mX9_balloon (rmd 3) (FQ g (pI (fun z M' => ∃ c, M' = up M 468 0 c ∧ ((c = 1 ∧ (t < 0 ∨ M 468 17 ≤ t ∨ p < 0 ∨ M 468 9 ≤ p)) ∨ (c = 0 ∧ 0 ≤ t ∧ t < M 468 17 ∧ 0 ≤ p ∧ p < M 468 9 ∧ z = (M 493 (5 * t + p))))))) 37 [(0, rv g 468), (1, iv t), (2, iv p)] [rv g 493] (up M 468 0 1)
        refine x_iconst (5) dX9_balloon_37 rfl ?_
        refine x_iload_n 1 dX9_balloon_38 rfl rfl ?_
        refine x_imul dX9_balloon_39 ?_
        refine x_iload_n 2 dX9_balloon_40 rfl rfl ?_
        refine x_iadd dX9_balloon_41 ?_
        refine x_cald dX9_balloon_42 k27 (by omega) (by omega) (by decide) (fun ⟨a28, a28'⟩ => ?_)
        have e29 : (up M 468 0 1) 493 ((5 * t) + p) = M 493 ((5 * t) + p) := (by simp (disch := omega) only [up_s, up_o, up_k])
        simp only [e29] at a28 a28' ⊢
        refine x_iret dX9_balloon_43 rfl (iZ_char (by omega) (by omega)) ?_
        exact ⟨_, rfl, 1, rfl, by omega⟩
      · refine x_bipush (32) dX9_balloon_28 rfl ?_
        refine x_goto (tgt := 43) dX9_balloon_30 (by decide) ?_
        refine x_iret dX9_balloon_43 rfl (iZ_char (by omega) (by omega)) ?_
        exact ⟨_, rfl, 1, rfl, by omega⟩

set_option maxHeartbeats 600000 in
set_option maxRecDepth 100000 in
theorem c_X9_pending (g : GG) (M : Mem) (t p : Int) (I : RB M) (ht : rg t) (hp : rg p) : Ct g yX9_pending cX9_pending 3 (some .int) 3 [rv g 468, iv t, iv p] M (pI (fun z M' => ∃ c, M' = up M 468 0 c ∧ ((c = 1 ∧ (t < 0 ∨ M 468 17 ≤ t ∨ p < 0 ∨ M 468 9 ≤ p)) ∨ (c = 0 ∧ 0 ≤ t ∧ t < M 468 17 ∧ 0 ≤ p ∧ p < M 468 9 ∧ z = pnd M t p)))) := by
  refine ct_of (by decide +kernel) (Nat.le_of_ble_eq_true rfl) ?_
  show Ok g mX9_pending (rmd 3) (FQ g (pI (fun z M' => ∃ c, M' = up M 468 0 c ∧ ((c = 1 ∧ (t < 0 ∨ M 468 17 ≤ t ∨ p < 0 ∨ M 468 9 ≤ p)) ∨ (c = 0 ∧ 0 ≤ t ∧ t < M 468 17 ∧ 0 ≤ p ∧ p < M 468 9 ∧ z = pnd M t p))))) 0 [(0, rv g 468), (1, iv t), (2, iv p)] [] M
  have i0 := I.rng
  have ht1 := ht.1
  have ht2 := ht.2
  have hp1 := hp.1
  have hp2 := hp.2
  refine x_aload_n 0 dX9_pending_0 rfl rfl ?_
  refine x_aload_n 0 dX9_pending_1 rfl rfl ?_
  refine x_iload_n 1 dX9_pending_2 rfl rfl ?_
  refine x_callVIP (as := [iv t]) (rest := [rv g 468]) dX9_pending_3 vl9_190 k_468 (c_X9_isNoTeam g M t ⟨by omega, by omega⟩ (by omega) (by omega)) rfl rfl (Nat.le_of_ble_eq_true rfl) ⟨Nat.le_of_ble_eq_true rfl, Nat.le_of_ble_eq_true rfl⟩ (fun z1 h2 => ?_)
  refine x_if_ne (tgt := 17) dX9_pending_6 (by decide) ⟨by omega, by omega⟩ (fun c4 => ?_) (fun c4 => ?_)
  · refine x_iconst (1) dX9_pending_17 rfl ?_
    refine x_goto (tgt := 22) dX9_pending_18 (by decide) ?_
    refine x_callVIP (as := [iv 1]) (rest := []) dX9_pending_22 vl9_114 k_468 (c_X9_fails g M 1 (by omega) (by omega)) rfl rfl (Nat.le_of_ble_eq_true rfl) ⟨Nat.le_of_ble_eq_true rfl, Nat.le_of_ble_eq_true rfl⟩ (fun z5 h6 => ?_)
    refine x_if_eq (tgt := 32) dX9_pending_25 (by decide) ⟨by omega, by omega⟩ (fun c8 => ?_) (fun c8 => ?_)
    · refine x_aload_n 0 dX9_pending_32 rfl rfl ?_
      refine x_iload_n 1 dX9_pending_33 rfl rfl ?_
      refine x_iload_n 2 dX9_pending_34 rfl rfl ?_
      refine x_callVIP (as := [iv t, iv p]) (rest := []) dX9_pending_35 vl9_212 k_468 (c_X9_pendingOf g (up M 468 0 1) t p (I.code 0) (by omega) (by omega) (by omega) (by omega)) rfl rfl (Nat.le_of_ble_eq_true rfl) ⟨Nat.le_of_ble_eq_true rfl, Nat.le_of_ble_eq_true rfl⟩ (fun z9 h10 => ?_)
      rw [pnd_code] at h10
      refine x_iret dX9_pending_38 rfl rfl ?_
      exact ⟨_, rfl, 1, rfl, by omega⟩
    · refine x_iconst (0) dX9_pending_28 rfl ?_
      refine x_goto (tgt := 38) dX9_pending_29 (by decide) ?_
      refine x_iret dX9_pending_38 rfl rfl ?_
      exact ⟨_, rfl, 1, rfl, by omega⟩
  · refine x_aload_n 0 dX9_pending_9 rfl rfl ?_
    refine x_iload_n 2 dX9_pending_10 rfl rfl ?_
    refine x_callVIP (as := [iv p]) (rest := [rv g 468]) dX9_pending_11 vl9_133 k_468 (c_X9_isNoProblem g M p ⟨by omega, by omega⟩ (by omega) (by omega)) rfl rfl (Nat.le_of_ble_eq_true rfl) ⟨Nat.le_of_ble_eq_true rfl, Nat.le_of_ble_eq_true rfl⟩ (fun z12 h13 => ?_)
    refine x_if_eq (tgt := 21) dX9_pending_14 (by decide) ⟨by omega, by omega⟩ (fun c15 => ?_) (fun c15 => ?_)
    · refine x_iconst (0) dX9_pending_21 rfl ?_
      refine x_callVIP (as := [iv 0]) (rest := []) dX9_pending_22 vl9_114 k_468 (c_X9_fails g M 0 (by omega) (by omega)) rfl rfl (Nat.le_of_ble_eq_true rfl) ⟨Nat.le_of_ble_eq_true rfl, Nat.le_of_ble_eq_true rfl⟩ (fun z16 h17 => ?_)
      refine x_if_eq (tgt := 32) dX9_pending_25 (by decide) ⟨by omega, by omega⟩ (fun c19 => ?_) (fun c19 => ?_)
      · refine x_aload_n 0 dX9_pending_32 rfl rfl ?_
        refine x_iload_n 1 dX9_pending_33 rfl rfl ?_
        refine x_iload_n 2 dX9_pending_34 rfl rfl ?_
        refine x_callVIP (as := [iv t, iv p]) (rest := []) dX9_pending_35 vl9_212 k_468 (c_X9_pendingOf g (up M 468 0 0) t p (I.code 0) (by omega) (by omega) (by omega) (by omega)) rfl rfl (Nat.le_of_ble_eq_true rfl) ⟨Nat.le_of_ble_eq_true rfl, Nat.le_of_ble_eq_true rfl⟩ (fun z20 h21 => ?_)
        rw [pnd_code] at h21
        refine x_iret dX9_pending_38 rfl rfl ?_
        exact ⟨_, rfl, 0, rfl, by omega⟩
      · refine x_iconst (0) dX9_pending_28 rfl ?_
        refine x_goto (tgt := 38) dX9_pending_29 (by decide) ?_
        refine x_iret dX9_pending_38 rfl rfl ?_
        exact ⟨_, rfl, 0, rfl, by omega⟩
    · refine x_iconst (1) dX9_pending_17 rfl ?_
      refine x_goto (tgt := 22) dX9_pending_18 (by decide) ?_
      refine x_callVIP (as := [iv 1]) (rest := []) dX9_pending_22 vl9_114 k_468 (c_X9_fails g M 1 (by omega) (by omega)) rfl rfl (Nat.le_of_ble_eq_true rfl) ⟨Nat.le_of_ble_eq_true rfl, Nat.le_of_ble_eq_true rfl⟩ (fun z23 h24 => ?_)
      refine x_if_eq (tgt := 32) dX9_pending_25 (by decide) ⟨by omega, by omega⟩ (fun c26 => ?_) (fun c26 => ?_)
      · refine x_aload_n 0 dX9_pending_32 rfl rfl ?_
        refine x_iload_n 1 dX9_pending_33 rfl rfl ?_
        refine x_iload_n 2 dX9_pending_34 rfl rfl ?_
        refine x_callVIP (as := [iv t, iv p]) (rest := []) dX9_pending_35 vl9_212 k_468 (c_X9_pendingOf g (up M 468 0 1) t p (I.code 0) (by omega) (by omega) (by omega) (by omega)) rfl rfl (Nat.le_of_ble_eq_true rfl) ⟨Nat.le_of_ble_eq_true rfl, Nat.le_of_ble_eq_true rfl⟩ (fun z27 h28 => ?_)
        rw [pnd_code] at h28
        refine x_iret dX9_pending_38 rfl rfl ?_
        exact ⟨_, rfl, 1, rfl, by omega⟩
      · refine x_iconst (0) dX9_pending_28 rfl ?_
        refine x_goto (tgt := 38) dX9_pending_29 (by decide) ?_
        refine x_iret dX9_pending_38 rfl rfl ?_
        exact ⟨_, rfl, 1, rfl, by omega⟩

set_option maxHeartbeats 600000 in
set_option maxRecDepth 100000 in
theorem c_X9_solved (g : GG) (M : Mem) (t b : Int) (I : RB M) (ht : rg t) (b0 : b = 0 ∨ b = 1) : Ct g yX9_solved cX9_solved 3 (some .int) 7 [rv g 468, iv t, iv b] M (pI (fun z M' => ∃ c, M' = up M 468 0 c ∧ ((c = 1 ∧ (t < 0 ∨ M 468 17 ≤ t)) ∨ (c = 0 ∧ 0 ≤ t ∧ t < M 468 17 ∧ z = solR M b t (M 468 18))))) := by
  refine ct_of (by decide +kernel) (Nat.le_of_ble_eq_true rfl) ?_
  show Ok g mX9_solved (rmd 7) (FQ g (pI (fun z M' => ∃ c, M' = up M 468 0 c ∧ ((c = 1 ∧ (t < 0 ∨ M 468 17 ≤ t)) ∨ (c = 0 ∧ 0 ≤ t ∧ t < M 468 17 ∧ z = solR M b t (M 468 18)))))) 0 [(0, rv g 468), (1, iv t), (2, iv b)] [] M
  have i0 := I.rng
  have ht1 := ht.1
  have ht2 := ht.2
  refine x_aload_n 0 dX9_solved_0 rfl rfl ?_
  refine x_aload_n 0 dX9_solved_1 rfl rfl ?_
  refine x_iload_n 1 dX9_solved_2 rfl rfl ?_
  refine x_callVIP (as := [iv t]) (rest := [rv g 468]) dX9_solved_3 vl9_190 k_468 (c_X9_isNoTeam g M t ⟨by omega, by omega⟩ (by omega) (by omega)) rfl rfl (Nat.le_of_ble_eq_true rfl) ⟨Nat.le_of_ble_eq_true rfl, Nat.le_of_ble_eq_true rfl⟩ (fun z1 h2 => ?_)
  refine x_if_eq (tgt := 13) dX9_solved_6 (by decide) ⟨by omega, by omega⟩ (fun c4 => ?_) (fun c4 => ?_)
  · refine x_iconst (0) dX9_solved_13 rfl ?_
    refine x_callVIP (as := [iv 0]) (rest := []) dX9_solved_14 vl9_114 k_468 (c_X9_fails g M 0 (by omega) (by omega)) rfl rfl (Nat.le_of_ble_eq_true rfl) ⟨Nat.le_of_ble_eq_true rfl, Nat.le_of_ble_eq_true rfl⟩ (fun z5 h6 => ?_)
    refine x_if_eq (tgt := 24) dX9_solved_17 (by decide) ⟨by omega, by omega⟩ (fun c8 => ?_) (fun c8 => ?_)
    · refine x_aload_n 0 dX9_solved_24 rfl rfl ?_
      refine x_iload_n 1 dX9_solved_25 rfl rfl ?_
      refine x_iload_n 2 dX9_solved_26 rfl rfl ?_
      refine x_callVIP (as := [iv t, iv b]) (rest := []) dX9_solved_27 vl9_226 k_468 (c_X9_solvedBy g (up M 468 0 0) t b (I.code 0) (by omega) (by omega) b0) rfl rfl (Nat.le_of_ble_eq_true rfl) ⟨Nat.le_of_ble_eq_true rfl, Nat.le_of_ble_eq_true rfl⟩ (fun z9 h10 => ?_)
      rw [solR_code, up_code (by omega)] at h10
      refine x_iret dX9_solved_30 rfl rfl ?_
      exact ⟨_, rfl, 0, rfl, by omega⟩
    · refine x_iconst (0) dX9_solved_20 rfl ?_
      refine x_goto (tgt := 30) dX9_solved_21 (by decide) ?_
      refine x_iret dX9_solved_30 rfl rfl ?_
      exact ⟨_, rfl, 0, rfl, by omega⟩
  · refine x_iconst (1) dX9_solved_9 rfl ?_
    refine x_goto (tgt := 14) dX9_solved_10 (by decide) ?_
    refine x_callVIP (as := [iv 1]) (rest := []) dX9_solved_14 vl9_114 k_468 (c_X9_fails g M 1 (by omega) (by omega)) rfl rfl (Nat.le_of_ble_eq_true rfl) ⟨Nat.le_of_ble_eq_true rfl, Nat.le_of_ble_eq_true rfl⟩ (fun z12 h13 => ?_)
    refine x_if_eq (tgt := 24) dX9_solved_17 (by decide) ⟨by omega, by omega⟩ (fun c15 => ?_) (fun c15 => ?_)
    · refine x_aload_n 0 dX9_solved_24 rfl rfl ?_
      refine x_iload_n 1 dX9_solved_25 rfl rfl ?_
      refine x_iload_n 2 dX9_solved_26 rfl rfl ?_
      refine x_callVIP (as := [iv t, iv b]) (rest := []) dX9_solved_27 vl9_226 k_468 (c_X9_solvedBy g (up M 468 0 1) t b (I.code 0) (by omega) (by omega) b0) rfl rfl (Nat.le_of_ble_eq_true rfl) ⟨Nat.le_of_ble_eq_true rfl, Nat.le_of_ble_eq_true rfl⟩ (fun z16 h17 => ?_)
      rw [solR_code, up_code (by omega)] at h17
      refine x_iret dX9_solved_30 rfl rfl ?_
      exact ⟨_, rfl, 1, rfl, by omega⟩
    · refine x_iconst (0) dX9_solved_20 rfl ?_
      refine x_goto (tgt := 30) dX9_solved_21 (by decide) ?_
      refine x_iret dX9_solved_30 rfl rfl ?_
      exact ⟨_, rfl, 1, rfl, by omega⟩

set_option maxHeartbeats 600000 in
set_option maxRecDepth 100000 in
theorem c_X9_penalty (g : GG) (M : Mem) (t b : Int) (I : RB M) (ht : rg t) (b0 : b = 0 ∨ b = 1) : Ct g yX9_penalty cX9_penalty 3 (some .int) 7 [rv g 468, iv t, iv b] M (pI (fun z M' => ∃ c, M' = up M 468 0 c ∧ ((c = 1 ∧ (t < 0 ∨ M 468 17 ≤ t)) ∨ (c = 0 ∧ 0 ≤ t ∧ t < M 468 17 ∧ z = penS M b t (M 468 18))))) := by
  refine ct_of (by decide +kernel) (Nat.le_of_ble_eq_true rfl) ?_
  show Ok g mX9_penalty (rmd 7) (FQ g (pI (fun z M' => ∃ c, M' = up M 468 0 c ∧ ((c = 1 ∧ (t < 0 ∨ M 468 17 ≤ t)) ∨ (c = 0 ∧ 0 ≤ t ∧ t < M 468 17 ∧ z = penS M b t (M 468 18)))))) 0 [(0, rv g 468), (1, iv t), (2, iv b)] [] M
  have i0 := I.rng
  have ht1 := ht.1
  have ht2 := ht.2
  refine x_aload_n 0 dX9_penalty_0 rfl rfl ?_
  refine x_aload_n 0 dX9_penalty_1 rfl rfl ?_
  refine x_iload_n 1 dX9_penalty_2 rfl rfl ?_
  refine x_callVIP (as := [iv t]) (rest := [rv g 468]) dX9_penalty_3 vl9_190 k_468 (c_X9_isNoTeam g M t ⟨by omega, by omega⟩ (by omega) (by omega)) rfl rfl (Nat.le_of_ble_eq_true rfl) ⟨Nat.le_of_ble_eq_true rfl, Nat.le_of_ble_eq_true rfl⟩ (fun z1 h2 => ?_)
  refine x_if_eq (tgt := 13) dX9_penalty_6 (by decide) ⟨by omega, by omega⟩ (fun c4 => ?_) (fun c4 => ?_)
  · refine x_iconst (0) dX9_penalty_13 rfl ?_
    refine x_callVIP (as := [iv 0]) (rest := []) dX9_penalty_14 vl9_114 k_468 (c_X9_fails g M 0 (by omega) (by omega)) rfl rfl (Nat.le_of_ble_eq_true rfl) ⟨Nat.le_of_ble_eq_true rfl, Nat.le_of_ble_eq_true rfl⟩ (fun z5 h6 => ?_)
    refine x_if_eq (tgt := 24) dX9_penalty_17 (by decide) ⟨by omega, by omega⟩ (fun c8 => ?_) (fun c8 => ?_)
    · refine x_aload_n 0 dX9_penalty_24 rfl rfl ?_
      refine x_iload_n 1 dX9_penalty_25 rfl rfl ?_
      refine x_iload_n 2 dX9_penalty_26 rfl rfl ?_
      refine x_callVIP (as := [iv t, iv b]) (rest := []) dX9_penalty_27 vl9_230 k_468 (c_X9_penaltyOf g (up M 468 0 0) t b (I.code 0) (by omega) (by omega) b0) rfl rfl (Nat.le_of_ble_eq_true rfl) ⟨Nat.le_of_ble_eq_true rfl, Nat.le_of_ble_eq_true rfl⟩ (fun z9 h10 => ?_)
      rw [penS_code, up_code (by omega)] at h10
      refine x_iret dX9_penalty_30 rfl rfl ?_
      exact ⟨_, rfl, 0, rfl, by omega⟩
    · refine x_iconst (0) dX9_penalty_20 rfl ?_
      refine x_goto (tgt := 30) dX9_penalty_21 (by decide) ?_
      refine x_iret dX9_penalty_30 rfl rfl ?_
      exact ⟨_, rfl, 0, rfl, by omega⟩
  · refine x_iconst (1) dX9_penalty_9 rfl ?_
    refine x_goto (tgt := 14) dX9_penalty_10 (by decide) ?_
    refine x_callVIP (as := [iv 1]) (rest := []) dX9_penalty_14 vl9_114 k_468 (c_X9_fails g M 1 (by omega) (by omega)) rfl rfl (Nat.le_of_ble_eq_true rfl) ⟨Nat.le_of_ble_eq_true rfl, Nat.le_of_ble_eq_true rfl⟩ (fun z12 h13 => ?_)
    refine x_if_eq (tgt := 24) dX9_penalty_17 (by decide) ⟨by omega, by omega⟩ (fun c15 => ?_) (fun c15 => ?_)
    · refine x_aload_n 0 dX9_penalty_24 rfl rfl ?_
      refine x_iload_n 1 dX9_penalty_25 rfl rfl ?_
      refine x_iload_n 2 dX9_penalty_26 rfl rfl ?_
      refine x_callVIP (as := [iv t, iv b]) (rest := []) dX9_penalty_27 vl9_230 k_468 (c_X9_penaltyOf g (up M 468 0 1) t b (I.code 0) (by omega) (by omega) b0) rfl rfl (Nat.le_of_ble_eq_true rfl) ⟨Nat.le_of_ble_eq_true rfl, Nat.le_of_ble_eq_true rfl⟩ (fun z16 h17 => ?_)
      rw [penS_code, up_code (by omega)] at h17
      refine x_iret dX9_penalty_30 rfl rfl ?_
      exact ⟨_, rfl, 1, rfl, by omega⟩
    · refine x_iconst (0) dX9_penalty_20 rfl ?_
      refine x_goto (tgt := 30) dX9_penalty_21 (by decide) ?_
      refine x_iret dX9_penalty_30 rfl rfl ?_
      exact ⟨_, rfl, 1, rfl, by omega⟩

set_option maxHeartbeats 600000 in
set_option maxRecDepth 100000 in
theorem c_X9_rank (g : GG) (M : Mem) (t b : Int) (I : RB M) (ht : rg t) (b0 : b = 0 ∨ b = 1) : Ct g yX9_rank cX9_rank 3 (some .int) 7 [rv g 468, iv t, iv b] M (pI (fun z M' => ∃ c, M' = up M 468 0 c ∧ ((c = 1 ∧ (t < 0 ∨ M 468 17 ≤ t)) ∨ (c = 0 ∧ 0 ≤ t ∧ t < M 468 17 ∧ z = 1 + cnt (fun q => q ≠ t ∧ Ahd M b q t) (M 468 17))))) := by
  refine ct_of (by decide +kernel) (Nat.le_of_ble_eq_true rfl) ?_
  show Ok g mX9_rank (rmd 7) (FQ g (pI (fun z M' => ∃ c, M' = up M 468 0 c ∧ ((c = 1 ∧ (t < 0 ∨ M 468 17 ≤ t)) ∨ (c = 0 ∧ 0 ≤ t ∧ t < M 468 17 ∧ z = 1 + cnt (fun q => q ≠ t ∧ Ahd M b q t) (M 468 17)))))) 0 [(0, rv g 468), (1, iv t), (2, iv b)] [] M
  have i0 := I.rng
  have ht1 := ht.1
  have ht2 := ht.2
  refine x_aload_n 0 dX9_rank_0 rfl rfl ?_
  refine x_aload_n 0 dX9_rank_1 rfl rfl ?_
  refine x_iload_n 1 dX9_rank_2 rfl rfl ?_
  refine x_callVIP (as := [iv t]) (rest := [rv g 468]) dX9_rank_3 vl9_190 k_468 (c_X9_isNoTeam g M t ⟨by omega, by omega⟩ (by omega) (by omega)) rfl rfl (Nat.le_of_ble_eq_true rfl) ⟨Nat.le_of_ble_eq_true rfl, Nat.le_of_ble_eq_true rfl⟩ (fun z1 h2 => ?_)
  refine x_if_eq (tgt := 13) dX9_rank_6 (by decide) ⟨by omega, by omega⟩ (fun c4 => ?_) (fun c4 => ?_)
  · refine x_iconst (0) dX9_rank_13 rfl ?_
    refine x_callVIP (as := [iv 0]) (rest := []) dX9_rank_14 vl9_114 k_468 (c_X9_fails g M 0 (by omega) (by omega)) rfl rfl (Nat.le_of_ble_eq_true rfl) ⟨Nat.le_of_ble_eq_true rfl, Nat.le_of_ble_eq_true rfl⟩ (fun z5 h6 => ?_)
    refine x_if_eq (tgt := 24) dX9_rank_17 (by decide) ⟨by omega, by omega⟩ (fun c8 => ?_) (fun c8 => ?_)
    · refine x_aload_n 0 dX9_rank_24 rfl rfl ?_
      refine x_iload_n 1 dX9_rank_25 rfl rfl ?_
      refine x_iload_n 2 dX9_rank_26 rfl rfl ?_
      refine x_callVIP (as := [iv t, iv b]) (rest := []) dX9_rank_27 vl9_236 k_468 (c_X9_rankOf g (up M 468 0 0) t b (I.code 0) (by omega) (by omega) b0) rfl rfl (Nat.le_of_ble_eq_true rfl) ⟨Nat.le_of_ble_eq_true rfl, Nat.le_of_ble_eq_true rfl⟩ (fun z9 h10 => ?_)
      simp only [Ahd_code] at h10
      rw [up_code (by omega)] at h10
      refine x_iret dX9_rank_30 rfl rfl ?_
      exact ⟨_, rfl, 0, rfl, by omega⟩
    · refine x_iconst (0) dX9_rank_20 rfl ?_
      refine x_goto (tgt := 30) dX9_rank_21 (by decide) ?_
      refine x_iret dX9_rank_30 rfl rfl ?_
      exact ⟨_, rfl, 0, rfl, by omega⟩
  · refine x_iconst (1) dX9_rank_9 rfl ?_
    refine x_goto (tgt := 14) dX9_rank_10 (by decide) ?_
    refine x_callVIP (as := [iv 1]) (rest := []) dX9_rank_14 vl9_114 k_468 (c_X9_fails g M 1 (by omega) (by omega)) rfl rfl (Nat.le_of_ble_eq_true rfl) ⟨Nat.le_of_ble_eq_true rfl, Nat.le_of_ble_eq_true rfl⟩ (fun z12 h13 => ?_)
    refine x_if_eq (tgt := 24) dX9_rank_17 (by decide) ⟨by omega, by omega⟩ (fun c15 => ?_) (fun c15 => ?_)
    · refine x_aload_n 0 dX9_rank_24 rfl rfl ?_
      refine x_iload_n 1 dX9_rank_25 rfl rfl ?_
      refine x_iload_n 2 dX9_rank_26 rfl rfl ?_
      refine x_callVIP (as := [iv t, iv b]) (rest := []) dX9_rank_27 vl9_236 k_468 (c_X9_rankOf g (up M 468 0 1) t b (I.code 0) (by omega) (by omega) b0) rfl rfl (Nat.le_of_ble_eq_true rfl) ⟨Nat.le_of_ble_eq_true rfl, Nat.le_of_ble_eq_true rfl⟩ (fun z16 h17 => ?_)
      simp only [Ahd_code] at h17
      rw [up_code (by omega)] at h17
      refine x_iret dX9_rank_30 rfl rfl ?_
      exact ⟨_, rfl, 1, rfl, by omega⟩
    · refine x_iconst (0) dX9_rank_20 rfl ?_
      refine x_goto (tgt := 30) dX9_rank_21 (by decide) ?_
      refine x_iret dX9_rank_30 rfl rfl ?_
      exact ⟨_, rfl, 1, rfl, by omega⟩
