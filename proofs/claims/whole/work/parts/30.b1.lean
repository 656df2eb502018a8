set_option maxHeartbeats 4000000 in
set_option maxRecDepth 100000 in
theorem c_X9_in (g : GG) (M : Mem) (v l h : Int) (hv : rg v) (hl : rg l) (hh : rg h) : Ct g yX9_in cX9_in 3 (some .boolean) 0 [iv v, iv l, iv h] M (pIP (fun z => (z = 1 ∧ l ≤ v ∧ v ≤ h) ∨ (z = 0 ∧ (v < l ∨ h < v))) M) := by
  refine ct_of (by decide +kernel) (Nat.le_of_ble_eq_true rfl) ?_
  show Ok g mX9_in (rmd 0) (FQ g (pIP (fun z => (z = 1 ∧ l ≤ v ∧ v ≤ h) ∨ (z = 0 ∧ (v < l ∨ h < v))) M)) 0 [(0, iv v), (1, iv l), (2, iv h)] [] M
  have hv1 := hv.1
  have hv2 := hv.2
  have hl1 := hl.1
  have hl2 := hl.2
  have hh1 := hh.1
  have hh2 := hh.2
  refine x_iload_n 0 dX9_in_0 rfl rfl ?_
  refine x_iload_n 1 dX9_in_1 rfl rfl ?_
  refine x_icmp_lt (tgt := 14) dX9_in_2 (by decide) ⟨by omega, by omega⟩ ⟨by omega, by omega⟩ (fun c1 => ?_) (fun c1 => ?_)
  · refine x_iconst (0) dX9_in_14 rfl ?_
    refine x_iret dX9_in_15 rfl (iZ_bool (by omega)) ?_
    exact ⟨_, rfl, rfl, by omega⟩
  · refine x_iload_n 0 dX9_in_5 rfl rfl ?_
    refine x_iload_n 2 dX9_in_6 rfl rfl ?_
    refine x_icmp_gt (tgt := 14) dX9_in_7 (by decide) ⟨by omega, by omega⟩ ⟨by omega, by omega⟩ (fun c2 => ?_) (fun c2 => ?_)
    · refine x_iconst (0) dX9_in_14 rfl ?_
      refine x_iret dX9_in_15 rfl (iZ_bool (by omega)) ?_
      exact ⟨_, rfl, rfl, by omega⟩
    · refine x_iconst (1) dX9_in_10 rfl ?_
      refine x_goto (tgt := 15) dX9_in_11 (by decide) ?_
      refine x_iret dX9_in_15 rfl (iZ_bool (by omega)) ?_
      exact ⟨_, rfl, rfl, by omega⟩

set_option maxHeartbeats 4000000 in
set_option maxRecDepth 100000 in
theorem c_X9_thrown (g : GG) (M : Mem)   : Ct g yX9_thrown cX9_thrown 1 (some .int) 0 [rv g 468] M (pIP (fun z => z = M 468 0) M) := by
  refine ct_of (by decide +kernel) (Nat.le_of_ble_eq_true rfl) ?_
  show Ok g mX9_thrown (rmd 0) (FQ g (pIP (fun z => z = M 468 0) M)) 0 [(0, rv g 468)] [] M
  refine x_aload_n 0 dX9_thrown_0 rfl rfl ?_
  refine x_geti (k := 0) (kI := 0) dX9_thrown_1 fl9_100 k_468 rfl rfl (fun ⟨a1, a1'⟩ => ?_)
  refine x_iret dX9_thrown_4 rfl rfl ?_
  exact ⟨_, rfl, rfl, by omega⟩

set_option maxHeartbeats 4000000 in
set_option maxRecDepth 100000 in
theorem c_X9_fails (g : GG) (M : Mem) (q : Int) (h0 : 0 ≤ q) (h1 : q ≤ 9) : Ct g yX9_fails cX9_fails 2 (some .boolean) 0 [rv g 468, iv q] M (pIP (fun z => (z = 1 ∧ 0 < q) ∨ (z = 0 ∧ q = 0)) (up M 468 0 q)) := by
  refine ct_of (by decide +kernel) (Nat.le_of_ble_eq_true rfl) ?_
  show Ok g mX9_fails (rmd 0) (FQ g (pIP (fun z => (z = 1 ∧ 0 < q) ∨ (z = 0 ∧ q = 0)) (up M 468 0 q))) 0 [(0, rv g 468), (1, iv q)] [] M
  refine x_aload_n 0 dX9_fails_0 rfl rfl ?_
  refine x_iload_n 1 dX9_fails_1 rfl rfl ?_
  refine x_puti (k := 0) (kI := 0) dX9_fails_2 fw9_100 k_468 rfl ⟨by omega, by omega⟩ rfl rfl rfl ?_
  refine x_iload_n 1 dX9_fails_5 rfl rfl ?_
  refine x_if_le (tgt := 13) dX9_fails_6 (by decide) ⟨by omega, by omega⟩ (fun c1 => ?_) (fun c1 => ?_)
  · refine x_iconst (0) dX9_fails_13 rfl ?_
    refine x_iret dX9_fails_14 rfl (iZ_bool (by omega)) ?_
    exact ⟨_, rfl, rfl, by omega⟩
  · refine x_iconst (1) dX9_fails_9 rfl ?_
    refine x_goto (tgt := 14) dX9_fails_10 (by decide) ?_
    refine x_iret dX9_fails_14 rfl (iZ_bool (by omega)) ?_
    exact ⟨_, rfl, rfl, by omega⟩

set_option maxHeartbeats 4000000 in
set_option maxRecDepth 100000 in
theorem c_X9_isNoProblem (g : GG) (M : Mem) (q : Int) (hq : rg q) (h0 : 0 ≤ M 468 9) (h1 : M 468 9 ≤ 40) : Ct g yX9_isNoProblem cX9_isNoProblem 2 (some .boolean) 1 [rv g 468, iv q] M (pIP (fun z => (z = 1 ∧ (q < 0 ∨ M 468 9 ≤ q)) ∨ (z = 0 ∧ 0 ≤ q ∧ q < M 468 9)) M) := by
  refine ct_of (by decide +kernel) (Nat.le_of_ble_eq_true rfl) ?_
  show Ok g mX9_isNoProblem (rmd 1) (FQ g (pIP (fun z => (z = 1 ∧ (q < 0 ∨ M 468 9 ≤ q)) ∨ (z = 0 ∧ 0 ≤ q ∧ q < M 468 9)) M)) 0 [(0, rv g 468), (1, iv q)] [] M
  have hq1 := hq.1
  have hq2 := hq.2
  refine x_iload_n 1 dX9_isNoProblem_0 rfl rfl ?_
  refine x_iconst (0) dX9_isNoProblem_1 rfl ?_
  refine x_aload_n 0 dX9_isNoProblem_2 rfl rfl ?_
  refine x_geti (k := 9) (kI := 9) dX9_isNoProblem_3 fl9_124 k_468 rfl rfl (fun ⟨a1, a1'⟩ => ?_)
  refine x_iconst (1) dX9_isNoProblem_6 rfl ?_
  refine x_isub dX9_isNoProblem_7 ?_
  refine x_callSIP (as := [iv q, iv 0, iv ((M 468 9) - 1)]) (rest := []) dX9_isNoProblem_8 sl9_103 (c_X9_in g M q 0 ((M 468 9) - 1) ⟨by omega, by omega⟩ ⟨by omega, by omega⟩ ⟨by omega, by omega⟩) rfl rfl (Nat.le_of_ble_eq_true rfl) ⟨Nat.le_of_ble_eq_true rfl, Nat.le_of_ble_eq_true rfl⟩ (fun z2 h3 => ?_)
  refine x_if_ne (tgt := 18) dX9_isNoProblem_11 (by decide) ⟨by omega, by omega⟩ (fun c5 => ?_) (fun c5 => ?_)
  · refine x_iconst (0) dX9_isNoProblem_18 rfl ?_
    refine x_iret dX9_isNoProblem_19 rfl (iZ_bool (by omega)) ?_
    exact ⟨_, rfl, rfl, by omega⟩
  · refine x_iconst (1) dX9_isNoProblem_14 rfl ?_
    refine x_goto (tgt := 19) dX9_isNoProblem_15 (by decide) ?_
    refine x_iret dX9_isNoProblem_19 rfl (iZ_bool (by omega)) ?_
    exact ⟨_, rfl, rfl, by omega⟩

set_option maxHeartbeats 4000000 in
set_option maxRecDepth 100000 in
theorem c_X9_isNoTeam (g : GG) (M : Mem) (q : Int) (hq : rg q) (h0 : 0 ≤ M 468 17) (h1 : M 468 17 ≤ 40) : Ct g yX9_isNoTeam cX9_isNoTeam 2 (some .boolean) 1 [rv g 468, iv q] M (pIP (fun z => (z = 1 ∧ (q < 0 ∨ M 468 17 ≤ q)) ∨ (z = 0 ∧ 0 ≤ q ∧ q < M 468 17)) M) := by
  refine ct_of (by decide +kernel) (Nat.le_of_ble_eq_true rfl) ?_
  show Ok g mX9_isNoTeam (rmd 1) (FQ g (pIP (fun z => (z = 1 ∧ (q < 0 ∨ M 468 17 ≤ q)) ∨ (z = 0 ∧ 0 ≤ q ∧ q < M 468 17)) M)) 0 [(0, rv g 468), (1, iv q)] [] M
  have hq1 := hq.1
  have hq2 := hq.2
  refine x_iload_n 1 dX9_isNoTeam_0 rfl rfl ?_
  refine x_iconst (0) dX9_isNoTeam_1 rfl ?_
  refine x_aload_n 0 dX9_isNoTeam_2 rfl rfl ?_
  refine x_geti (k := 17) (kI := 17) dX9_isNoTeam_3 fl9_127 k_468 rfl rfl (fun ⟨a1, a1'⟩ => ?_)
  refine x_iconst (1) dX9_isNoTeam_6 rfl ?_
  refine x_isub dX9_isNoTeam_7 ?_
  refine x_callSIP (as := [iv q, iv 0, iv ((M 468 17) - 1)]) (rest := []) dX9_isNoTeam_8 sl9_103 (c_X9_in g M q 0 ((M 468 17) - 1) ⟨by omega, by omega⟩ ⟨by omega, by omega⟩ ⟨by omega, by omega⟩) rfl rfl (Nat.le_of_ble_eq_true rfl) ⟨Nat.le_of_ble_eq_true rfl, Nat.le_of_ble_eq_true rfl⟩ (fun z2 h3 => ?_)
  refine x_if_ne (tgt := 18) dX9_isNoTeam_11 (by decide) ⟨by omega, by omega⟩ (fun c5 => ?_) (fun c5 => ?_)
  · refine x_iconst (0) dX9_isNoTeam_18 rfl ?_
    refine x_iret dX9_isNoTeam_19 rfl (iZ_bool (by omega)) ?_
    exact ⟨_, rfl, rfl, by omega⟩
  · refine x_iconst (1) dX9_isNoTeam_14 rfl ?_
    refine x_goto (tgt := 19) dX9_isNoTeam_15 (by decide) ?_
    refine x_iret dX9_isNoTeam_19 rfl (iZ_bool (by omega)) ?_
    exact ⟨_, rfl, rfl, by omega⟩

set_option maxHeartbeats 4000000 in
set_option maxRecDepth 100000 in
theorem c_X9_isNoRun (g : GG) (M : Mem) (q : Int) (hq : rg q) (h0 : 0 ≤ M 468 18) (h1 : M 468 18 ≤ 40) : Ct g yX9_isNoRun cX9_isNoRun 2 (some .boolean) 1 [rv g 468, iv q] M (pIP (fun z => (z = 1 ∧ (q < 0 ∨ M 468 18 ≤ q)) ∨ (z = 0 ∧ 0 ≤ q ∧ q < M 468 18)) M) := by
  refine ct_of (by decide +kernel) (Nat.le_of_ble_eq_true rfl) ?_
  show Ok g mX9_isNoRun (rmd 1) (FQ g (pIP (fun z => (z = 1 ∧ (q < 0 ∨ M 468 18 ≤ q)) ∨ (z = 0 ∧ 0 ≤ q ∧ q < M 468 18)) M)) 0 [(0, rv g 468), (1, iv q)] [] M
  have hq1 := hq.1
  have hq2 := hq.2
  refine x_iload_n 1 dX9_isNoRun_0 rfl rfl ?_
  refine x_iconst (0) dX9_isNoRun_1 rfl ?_
  refine x_aload_n 0 dX9_isNoRun_2 rfl rfl ?_
  refine x_geti (k := 18) (kI := 18) dX9_isNoRun_3 fl9_130 k_468 rfl rfl (fun ⟨a1, a1'⟩ => ?_)
  refine x_iconst (1) dX9_isNoRun_6 rfl ?_
  refine x_isub dX9_isNoRun_7 ?_
  refine x_callSIP (as := [iv q, iv 0, iv ((M 468 18) - 1)]) (rest := []) dX9_isNoRun_8 sl9_103 (c_X9_in g M q 0 ((M 468 18) - 1) ⟨by omega, by omega⟩ ⟨by omega, by omega⟩ ⟨by omega, by omega⟩) rfl rfl (Nat.le_of_ble_eq_true rfl) ⟨Nat.le_of_ble_eq_true rfl, Nat.le_of_ble_eq_true rfl⟩ (fun z2 h3 => ?_)
  refine x_if_ne (tgt := 18) dX9_isNoRun_11 (by decide) ⟨by omega, by omega⟩ (fun c5 => ?_) (fun c5 => ?_)
  · refine x_iconst (0) dX9_isNoRun_18 rfl ?_
    refine x_iret dX9_isNoRun_19 rfl (iZ_bool (by omega)) ?_
    exact ⟨_, rfl, rfl, by omega⟩
  · refine x_iconst (1) dX9_isNoRun_14 rfl ?_
    refine x_goto (tgt := 19) dX9_isNoRun_15 (by decide) ?_
    refine x_iret dX9_isNoRun_19 rfl (iZ_bool (by omega)) ?_
    exact ⟨_, rfl, rfl, by omega⟩

set_option maxHeartbeats 4000000 in
set_option maxRecDepth 100000 in
theorem c_X9_failedOf (g : GG) (M : Mem) (r : Int) (h0 : 0 ≤ r) (h1 : r < 40) (h2 : 0 ≤ (M 482 (r))) (h3 : (M 482 (r)) < 5) (h4 : 0 ≤ (M 476 ((M 482 (r))))) (h5 : (M 476 ((M 482 (r)))) ≤ 6) : Ct g yX9_failedOf cX9_failedOf 3 (some .int) 0 [rv g 468, iv r] M (pIP (fun z => (z = -1 ∧ ∀ t, 0 ≤ t → t < (M 476 ((M 482 (r)))) → (M 488 (6 * r + t)) = 111) ∨ (0 ≤ z ∧ z < (M 476 ((M 482 (r)))) ∧ (M 488 (6 * r + z)) ≠ 111 ∧ ∀ t, 0 ≤ t → t < z → (M 488 (6 * r + t)) = 111)) M) := by
  refine ct_of (by decide +kernel) (Nat.le_of_ble_eq_true rfl) ?_
  show Ok g mX9_failedOf (rmd 0) (FQ g (pIP (fun z => (z = -1 ∧ ∀ t, 0 ≤ t → t < (M 476 ((M 482 (r)))) → (M 488 (6 * r + t)) = 111) ∨ (0 ≤ z ∧ z < (M 476 ((M 482 (r)))) ∧ (M 488 (6 * r + z)) ≠ 111 ∧ ∀ t, 0 ≤ t → t < z → (M 488 (6 * r + t)) = 111)) M)) 0 [(0, rv g 468), (1, iv r)] [] M
  have h_2 : ∀ (n_ : Nat) (t : Int), (0 ≤ t) → (t ≤ (M 476 ((M 482 (r))))) → (∀ q, 0 ≤ q → q < t → (M 488 (6 * r + q)) = 111) → ((M 476 ((M 482 (r)))) - t).toNat < n_ → Ok g mX9_failedOf (rmd 0) (FQ g (pIP (fun z => (z = -1 ∧ ∀ t, 0 ≤ t → t < (M 476 ((M 482 (r)))) → (M 488 (6 * r + t)) = 111) ∨ (0 ≤ z ∧ z < (M 476 ((M 482 (r)))) ∧ (M 488 (6 * r + z)) ≠ 111 ∧ ∀ t, 0 ≤ t → t < z → (M 488 (6 * r + t)) = 111)) M)) 2 [(0, rv g 468), (1, iv r), (2, iv t)] [] M := by
    intro n_
    induction n_ with
    | zero => intro t; intro i0 i1 i2 hn_; exact absurd hn_ (Nat.not_lt_zero _)
    | succ n_ ih =>
      intro t i0 i1 i2 hn_
      refine x_iload_n 2 dX9_failedOf_2 rfl rfl ?_
      refine x_aload_n 0 dX9_failedOf_3 rfl rfl ?_
      refine x_getr (k := 12) (d := 8) dX9_failedOf_4 fl9_32 k_468 rfl (fun k1 => ?_)
      have k1 : isK 20 5 476 := k1
      show Ok g mX9_failedOf (rmd 0) (FQ g (pIP (fun z => (z = -1 ∧ ∀ t, 0 ≤ t → t < (M 476 ((M 482 (r)))) → (M 488 (6 * r + t)) = 111) ∨ (0 ≤ z ∧ z < (M 476 ((M 482 (r)))) ∧ (M 488 (6 * r + z)) ≠ 111 ∧ ∀ t, 0 ≤ t → t < z → (M 488 (6 * r + t)) = 111)) M)) 7 [(0, rv g 468), (1, iv r), (2, iv t)] [rv g 476, iv t] M
      refine x_aload_n 0 dX9_failedOf_7 rfl rfl ?_
      refine x_getr (k := 20) (d := 14) dX9_failedOf_8 fl9_50 k_468 rfl (fun k2 => ?_)
      have k2 : isK 20 40 482 := k2
      show Ok g mX9_failedOf (rmd 0) (FQ g (pIP (fun z => (z = -1 ∧ ∀ t, 0 ≤ t → t < (M 476 ((M 482 (r)))) → (M 488 (6 * r + t)) = 111) ∨ (0 ≤ z ∧ z < (M 476 ((M 482 (r)))) ∧ (M 488 (6 * r + z)) ≠ 111 ∧ ∀ t, 0 ≤ t → t < z → (M 488 (6 * r + t)) = 111)) M)) 11 [(0, rv g 468), (1, iv r), (2, iv t)] [rv g 482, rv g 476, iv t] M
      refine x_iload_n 1 dX9_failedOf_11 rfl rfl ?_
      refine x_iald dX9_failedOf_12 k2 (by omega) (by omega) (by decide) (fun ⟨a3, a3'⟩ => ?_)
      refine x_iald dX9_failedOf_13 k1 (by omega) (by omega) (by decide) (fun ⟨a4, a4'⟩ => ?_)
      refine x_icmp_ge (tgt := 41) dX9_failedOf_14 (by decide) ⟨by omega, by omega⟩ ⟨by omega, by omega⟩ (fun c5 => ?_) (fun c5 => ?_)
      · refine x_iconst (-1) dX9_failedOf_41 rfl ?_
        refine x_iret dX9_failedOf_42 rfl rfl ?_
        exact ⟨_, rfl, rfl, Or.inl ⟨by omega, fun q q0 q1 => i2 q q0 (by omega)⟩⟩
      · refine x_aload_n 0 dX9_failedOf_17 rfl rfl ?_
        refine x_getr (k := 26) (d := 20) dX9_failedOf_18 fl9_68 k_468 rfl (fun k6 => ?_)
        have k6 : isK 21 240 488 := k6
        show Ok g mX9_failedOf (rmd 0) (FQ g (pIP (fun z => (z = -1 ∧ ∀ t, 0 ≤ t → t < (M 476 ((M 482 (r)))) → (M 488 (6 * r + t)) = 111) ∨ (0 ≤ z ∧ z < (M 476 ((M 482 (r)))) ∧ (M 488 (6 * r + z)) ≠ 111 ∧ ∀ t, 0 ≤ t → t < z → (M 488 (6 * r + t)) = 111)) M)) 21 [(0, rv g 468), (1, iv r), (2, iv t)] [rv g 488] M
        refine x_bipush (6) dX9_failedOf_21 rfl ?_
        refine x_iload_n 1 dX9_failedOf_23 rfl rfl ?_
        refine x_imul dX9_failedOf_24 ?_
        refine x_iload_n 2 dX9_failedOf_25 rfl rfl ?_
        refine x_iadd dX9_failedOf_26 ?_
        refine x_cald dX9_failedOf_27 k6 (by omega) (by omega) (by decide) (fun ⟨a7, a7'⟩ => ?_)
        refine x_bipush (111) dX9_failedOf_28 rfl ?_
        refine x_icmp_eq (tgt := 35) dX9_failedOf_30 (by decide) ⟨by omega, by omega⟩ ⟨by decide, by decide⟩ (fun c8 => ?_) (fun c8 => ?_)
        · refine x_iinc (z := t) (lv' := [(2, iv (t + 1)), (0, rv g 468), (1, iv r)]) 2 dX9_failedOf_35 rfl (Nat.le_of_ble_eq_true rfl) rfl ?_
          refine x_goto (tgt := 2) dX9_failedOf_38 (by decide) ?_
          refine x_sub [1, 2, 0] rfl ?_
          exact ih _ (by omega) (by omega) (by exact ext_lt i2 (by assumption)) (by omega)
        · refine x_iload_n 2 dX9_failedOf_33 rfl rfl ?_
          refine x_iret dX9_failedOf_34 rfl rfl ?_
          exact ⟨_, rfl, rfl, Or.inr ⟨by omega, by omega, by assumption, i2⟩⟩
  refine x_iconst (0) dX9_failedOf_0 rfl ?_
  refine x_istore_n (lv' := [(2, iv 0), (0, rv g 468), (1, iv r)]) dX9_failedOf_1 rfl (Nat.le_of_ble_eq_true rfl) rfl ?_
  refine x_sub [1, 2, 0] rfl ?_
  exact h_2 _ _ (by omega) (by omega) (by intro q _ _; omega) (Nat.lt_succ_self _)
