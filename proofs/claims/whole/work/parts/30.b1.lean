set_option maxHeartbeats 600000 in
set_option maxRecDepth 100000 in
theorem c_X9_in (g : GG) (M : Mem) (v l h : Int) (hv : rg v) (hl : rg l) (hh : rg h) : Ct g yX9_in cX9_in 3 (some .boolean) 0 [iv v, iv l, iv h] M (pIP (fun z => (z = 1 ∧ l ≤ v ∧ v ≤ h) ∨ (z = 0 ∧ (v < l ∨ h < v))) M) := by
  refine ct_of (by decide +kernel) (Nat.le_of_ble_eq_true rfl) ?_
  show Ok g mX9_in (rmd 0) (FQ g (pIP (fun z => (z = 1 ∧ l ≤ v ∧ v ≤ h) ∨ (z = 0 ∧ (v < l ∨ h < v))) M)) 0 [(0, iv v), (1, iv l), (2, iv h)] [] M
  have hv1 := hv.1
  have hv2 := hv.2
  have hl1 := hl.1
  have hl2 := hl.2
  have hh1 := hh.1
  have hh2 := hh.2
  refine x_iload_n 0 dX9_in_0 rfl rfl ?_
  refine x_iload_n 1 dX9_in_1 rfl rfl ?_
  refine x_icmp_lt (tgt := 14) dX9_in_2 (by decide) ⟨by omega, by omega⟩ ⟨by omega, by omega⟩ (fun c1 => ?_) (fun c1 => ?_)
  · refine x_iconst (0) dX9_in_14 rfl ?_
    refine x_iret dX9_in_15 rfl (iZ_bool (by omega)) ?_
    exact ⟨_, rfl, rfl, by omega⟩
  · refine x_iload_n 0 dX9_in_5 rfl rfl ?_
    refine x_iload_n 2 dX9_in_6 rfl rfl ?_
    refine x_icmp_gt (tgt := 14) dX9_in_7 (by decide) ⟨by omega, by omega⟩ ⟨by omega, by omega⟩ (fun c2 => ?_) (fun c2 => ?_)
    · refine x_iconst (0) dX9_in_14 rfl ?_
      refine x_iret dX9_in_15 rfl (iZ_bool (by omega)) ?_
      exact ⟨_, rfl, rfl, by omega⟩
    · refine x_iconst (1) dX9_in_10 rfl ?_
      refine x_goto (tgt := 15) dX9_in_11 (by decide) ?_
      refine x_iret dX9_in_15 rfl (iZ_bool (by omega)) ?_
      exact ⟨_, rfl, rfl, by omega⟩

set_option maxHeartbeats 600000 in
set_option maxRecDepth 100000 in
theorem c_X9_thrown (g : GG) (M : Mem)   : Ct g yX9_thrown cX9_thrown 1 (some .int) 0 [rv g 468] M (pIP (fun z => z = M 468 0) M) := by
  refine ct_of (by decide +kernel) (Nat.le_of_ble_eq_true rfl) ?_
  show Ok g mX9_thrown (rmd 0) (FQ g (pIP (fun z => z = M 468 0) M)) 0 [(0, rv g 468)] [] M
  refine x_aload_n 0 dX9_thrown_0 rfl rfl ?_
  refine x_geti (k := 0) (kI := 0) dX9_thrown_1 fl9_100 k_468 rfl rfl (fun ⟨a1, a1'⟩ => ?_)
  refine x_iret dX9_thrown_4 rfl rfl ?_
  exact ⟨_, rfl, rfl, by omega⟩

set_option maxHeartbeats 600000 in
set_option maxRecDepth 100000 in
theorem c_X9_fails (g : GG) (M : Mem) (q : Int) (h0 : 0 ≤ q) (h1 : q ≤ 9) : Ct g yX9_fails cX9_fails 2 (some .boolean) 0 [rv g 468, iv q] M (pIP (fun z => (z = 1 ∧ 0 < q) ∨ (z = 0 ∧ q = 0)) (up M 468 0 q)) := by
  refine ct_of (by decide +kernel) (Nat.le_of_ble_eq_true rfl) ?_
  show Ok g mX9_fails (rmd 0) (FQ g (pIP (fun z => (z = 1 ∧ 0 < q) ∨ (z = 0 ∧ q = 0)) (up M 468 0 q))) 0 [(0, rv g 468), (1, iv q)] [] M
  refine x_aload_n 0 dX9_fails_0 rfl rfl ?_
  refine x_iload_n 1 dX9_fails_1 rfl rfl ?_
  refine x_puti (k := 0) (kI := 0) dX9_fails_2 fw9_100 k_468 rfl ⟨by omega, by omega⟩ rfl rfl rfl ?_
  refine x_iload_n 1 dX9_fails_5 rfl rfl ?_
  refine x_if_le (tgt := 13) dX9_fails_6 (by decide) ⟨by omega, by omega⟩ (fun c1 => ?_) (fun c1 => ?_)
  · refine x_iconst (0) dX9_fails_13 rfl ?_
    refine x_iret dX9_fails_14 rfl (iZ_bool (by omega)) ?_
    exact ⟨_, rfl, rfl, by omega⟩
  · refine x_iconst (1) dX9_fails_9 rfl ?_
    refine x_goto (tgt := 14) dX9_fails_10 (by decide) ?_
    refine x_iret dX9_fails_14 rfl (iZ_bool (by omega)) ?_
    exact ⟨_, rfl, rfl, by omega⟩

set_option maxHeartbeats 600000 in
set_option maxRecDepth 100000 in
theorem c_X9_isNoProblem (g : GG) (M : Mem) (q : Int) (hq : rg q) (h0 : 0 ≤ M 468 9) (h1 : M 468 9 ≤ 40) : Ct g yX9_isNoProblem cX9_isNoProblem 2 (some .boolean) 1 [rv g 468, iv q] M (pIP (fun z => (z = 1 ∧ (q < 0 ∨ M 468 9 ≤ q)) ∨ (z = 0 ∧ 0 ≤ q ∧ q < M 468 9)) M) := by
  refine ct_of (by decide +kernel) (Nat.le_of_ble_eq_true rfl) ?_
  show Ok g mX9_isNoProblem (rmd 1) (FQ g (pIP (fun z => (z = 1 ∧ (q < 0 ∨ M 468 9 ≤ q)) ∨ (z = 0 ∧ 0 ≤ q ∧ q < M 468 9)) M)) 0 [(0, rv g 468), (1, iv q)] [] M
  have hq1 := hq.1
  have hq2 := hq.2
  refine x_iload_n 1 dX9_isNoProblem_0 rfl rfl ?_
  refine x_iconst (0) dX9_isNoProblem_1 rfl ?_
  refine x_aload_n 0 dX9_isNoProblem_2 rfl rfl ?_
  refine x_geti (k := 9) (kI := 9) dX9_isNoProblem_3 fl9_124 k_468 rfl rfl (fun ⟨a1, a1'⟩ => ?_)
  refine x_iconst (1) dX9_isNoProblem_6 rfl ?_
  refine x_isub dX9_isNoProblem_7 ?_
  refine x_callSIP (as := [iv q, iv 0, iv ((M 468 9) - 1)]) (rest := []) dX9_isNoProblem_8 sl9_103 (c_X9_in g M q 0 ((M 468 9) - 1) ⟨by omega, by omega⟩ ⟨by omega, by omega⟩ ⟨by omega, by omega⟩) rfl rfl (Nat.le_of_ble_eq_true rfl) ⟨Nat.le_of_ble_eq_true rfl, Nat.le_of_ble_eq_true rfl⟩ (fun z2 h3 => ?_)
  refine x_if_ne (tgt := 18) dX9_isNoProblem_11 (by decide) ⟨by omega, by omega⟩ (fun c5 => ?_) (fun c5 => ?_)
  · refine x_iconst (0) dX9_isNoProblem_18 rfl ?_
    refine x_iret dX9_isNoProblem_19 rfl (iZ_bool (by omega)) ?_
    exact ⟨_, rfl, rfl, by omega⟩
  · refine x_iconst (1) dX9_isNoProblem_14 rfl ?_
    refine x_goto (tgt := 19) dX9_isNoProblem_15 (by decide) ?_
    refine x_iret dX9_isNoProblem_19 rfl (iZ_bool (by omega)) ?_
    exact ⟨_, rfl, rfl, by omega⟩

set_option maxHeartbeats 600000 in
set_option maxRecDepth 100000 in
theorem c_X9_isNoTeam (g : GG) (M : Mem) (q : Int) (hq : rg q) (h0 : 0 ≤ M 468 17) (h1 : M 468 17 ≤ 40) : Ct g yX9_isNoTeam cX9_isNoTeam 2 (some .boolean) 1 [rv g 468, iv q] M (pIP (fun z => (z = 1 ∧ (q < 0 ∨ M 468 17 ≤ q)) ∨ (z = 0 ∧ 0 ≤ q ∧ q < M 468 17)) M) := by
  refine ct_of (by decide +kernel) (Nat.le_of_ble_eq_true rfl) ?_
  show Ok g mX9_isNoTeam (rmd 1) (FQ g (pIP (fun z => (z = 1 ∧ (q < 0 ∨ M 468 17 ≤ q)) ∨ (z = 0 ∧ 0 ≤ q ∧ q < M 468 17)) M)) 0 [(0, rv g 468), (1, iv q)] [] M
  have hq1 := hq.1
  have hq2 := hq.2
  refine x_iload_n 1 dX9_isNoTeam_0 rfl rfl ?_
  refine x_iconst (0) dX9_isNoTeam_1 rfl ?_
  refine x_aload_n 0 dX9_isNoTeam_2 rfl rfl ?_
  refine x_geti (k := 17) (kI := 17) dX9_isNoTeam_3 fl9_127 k_468 rfl rfl (fun ⟨a1, a1'⟩ => ?_)
  refine x_iconst (1) dX9_isNoTeam_6 rfl ?_
  refine x_isub dX9_isNoTeam_7 ?_
  refine x_callSIP (as := [iv q, iv 0, iv ((M 468 17) - 1)]) (rest := []) dX9_isNoTeam_8 sl9_103 (c_X9_in g M q 0 ((M 468 17) - 1) ⟨by omega, by omega⟩ ⟨by omega, by omega⟩ ⟨by omega, by omega⟩) rfl rfl (Nat.le_of_ble_eq_true rfl) ⟨Nat.le_of_ble_eq_true rfl, Nat.le_of_ble_eq_true rfl⟩ (fun z2 h3 => ?_)
  refine x_if_ne (tgt := 18) dX9_isNoTeam_11 (by decide) ⟨by omega, by omega⟩ (fun c5 => ?_) (fun c5 => ?_)
  · refine x_iconst (0) dX9_isNoTeam_18 rfl ?_
    refine x_iret dX9_isNoTeam_19 rfl (iZ_bool (by omega)) ?_
    exact ⟨_, rfl, rfl, by omega⟩
  · refine x_iconst (1) dX9_isNoTeam_14 rfl ?_
    refine x_goto (tgt := 19) dX9_isNoTeam_15 (by decide) ?_
    refine x_iret dX9_isNoTeam_19 rfl (iZ_bool (by omega)) ?_
    exact ⟨_, rfl, rfl, by omega⟩

set_option maxHeartbeats 600000 in
set_option maxRecDepth 100000 in
theorem c_X9_isNoRun (g : GG) (M : Mem) (q : Int) (hq : rg q) (h0 : 0 ≤ M 468 18) (h1 : M 468 18 ≤ 40) : Ct g yX9_isNoRun cX9_isNoRun 2 (some .boolean) 1 [rv g 468, iv q] M (pIP (fun z => (z = 1 ∧ (q < 0 ∨ M 468 18 ≤ q)) ∨ (z = 0 ∧ 0 ≤ q ∧ q < M 468 18)) M) := by
  refine ct_of (by decide +kernel) (Nat.le_of_ble_eq_true rfl) ?_
  show Ok g mX9_isNoRun (rmd 1) (FQ g (pIP (fun z => (z = 1 ∧ (q < 0 ∨ M 468 18 ≤ q)) ∨ (z = 0 ∧ 0 ≤ q ∧ q < M 468 18)) M)) 0 [(0, rv g 468), (1, iv q)] [] M
  have hq1 := hq.1
  have hq2 := hq.2
  refine x_iload_n 1 dX9_isNoRun_0 rfl rfl ?_
  refine x_iconst (0) dX9_isNoRun_1 rfl ?_
  refine x_aload_n 0 dX9_isNoRun_2 rfl rfl ?_
  refine x_geti (k := 18) (kI := 18) dX9_isNoRun_3 fl9_130 k_468 rfl rfl (fun ⟨a1, a1'⟩ => ?_)
  refine x_iconst (1) dX9_isNoRun_6 rfl ?_
  refine x_isub dX9_isNoRun_7 ?_
  refine x_callSIP (as := [iv q, iv 0, iv ((M 468 18) - 1)]) (rest := []) dX9_isNoRun_8 sl9_103 (c_X9_in g M q 0 ((M 468 18) - 1) ⟨by omega, by omega⟩ ⟨by omega, by omega⟩ ⟨by omega, by omega⟩) rfl rfl (Nat.le_of_ble_eq_true rfl) ⟨Nat.le_of_ble_eq_true rfl, Nat.le_of_ble_eq_true rfl⟩ (fun z2 h3 => ?_)
  refine x_if_ne (tgt := 18) dX9_isNoRun_11 (by decide) ⟨by omega, by omega⟩ (fun c5 => ?_) (fun c5 => ?_)
  · refine x_iconst (0) dX9_isNoRun_18 rfl ?_
    refine x_iret dX9_isNoRun_19 rfl (iZ_bool (by omega)) ?_
    exact ⟨_, rfl, rfl, by omega⟩
  · refine x_iconst (1) dX9_isNoRun_14 rfl ?_
    refine x_goto (tgt := 19) dX9_isNoRun_15 (by decide) ?_
    refine x_iret dX9_isNoRun_19 rfl (iZ_bool (by omega)) ?_
    exact ⟨_, rfl, rfl, by omega⟩

set_option maxHeartbeats 600000 in
set_option maxRecDepth 100000 in
theorem c_X9_isNoColour (g : GG) (M : Mem) (q : Int) (hq : rg q) : Ct g yX9_isNoColour cX9_isNoColour 1 (some .boolean) 1 [iv q] M (pIP (fun z => (z = 1 ∧ (q < 0 ∨ 3 < q)) ∨ (z = 0 ∧ 0 ≤ q ∧ q ≤ 3)) M) := by
  refine ct_of (by decide +kernel) (Nat.le_of_ble_eq_true rfl) ?_
  show Ok g mX9_isNoColour (rmd 1) (FQ g (pIP (fun z => (z = 1 ∧ (q < 0 ∨ 3 < q)) ∨ (z = 0 ∧ 0 ≤ q ∧ q ≤ 3)) M)) 0 [(0, iv q)] [] M
  have hq1 := hq.1
  have hq2 := hq.2
  refine x_iload_n 0 dX9_isNoColour_0 rfl rfl ?_
  refine x_iconst (0) dX9_isNoColour_1 rfl ?_
  refine x_iconst (3) dX9_isNoColour_2 rfl ?_
  refine x_callSIP (as := [iv q, iv 0, iv 3]) (rest := []) dX9_isNoColour_3 sl9_103 (c_X9_in g M q 0 3 ⟨by omega, by omega⟩ ⟨by omega, by omega⟩ ⟨by omega, by omega⟩) rfl rfl (Nat.le_of_ble_eq_true rfl) ⟨Nat.le_of_ble_eq_true rfl, Nat.le_of_ble_eq_true rfl⟩ (fun z1 h2 => ?_)
  refine x_if_ne (tgt := 13) dX9_isNoColour_6 (by decide) ⟨by omega, by omega⟩ (fun c4 => ?_) (fun c4 => ?_)
  · refine x_iconst (0) dX9_isNoColour_13 rfl ?_
    refine x_iret dX9_isNoColour_14 rfl (iZ_bool (by omega)) ?_
    exact ⟨_, rfl, rfl, by omega⟩
  · refine x_iconst (1) dX9_isNoColour_9 rfl ?_
    refine x_goto (tgt := 14) dX9_isNoColour_10 (by decide) ?_
    refine x_iret dX9_isNoColour_14 rfl (iZ_bool (by omega)) ?_
    exact ⟨_, rfl, rfl, by omega⟩

set_option maxHeartbeats 600000 in
set_option maxRecDepth 100000 in
theorem c_X9_failedOf (g : GG) (M : Mem) (r : Int) (I : RB M) (r0 : 0 ≤ r) (r1 : r < M 468 18) : Ct g yX9_failedOf cX9_failedOf 3 (some .int) 0 [rv g 468, iv r] M (pIP (fun z => z = fz M r) M) := by
  refine ct_of (by decide +kernel) (Nat.le_of_ble_eq_true rfl) ?_
  show Ok g mX9_failedOf (rmd 0) (FQ g (pIP (fun z => z = fz M r) M)) 0 [(0, rv g 468), (1, iv r)] [] M
  have i0 := I.rng
  have i1 := I.run r r0 r1
  have i2 := I.prob (M 482 r) (by omega) (by omega)
  have h_2 : ∀ (n_2 : Nat) (t : Int), (0 ≤ t) → (t ≤ (M 476 ((M 482 (r))))) → (∀ q, 0 ≤ q → q < t → (M 488 (6 * r + q)) = 111) → ((M 476 ((M 482 (r)))) - t).toNat < n_2 → Ok g mX9_failedOf (rmd 0) (FQ g (pIP (fun z => z = fz M r) M)) 2 [(0, rv g 468), (1, iv r), (2, iv t)] [] M := by
    intro n_2
    induction n_2 with
    | zero => intro t j0 j1 j2 hn_2; exact absurd hn_2 (Nat.not_lt_zero _)
    | succ n_2 ih_2 =>
      intro t j0 j1 j2 hn_2
      refine x_iload_n 2 dX9_failedOf_2 rfl rfl ?_
      refine x_aload_n 0 dX9_failedOf_3 rfl rfl ?_
      refine x_getr (k := 12) (d := 8) dX9_failedOf_4 fl9_32 k_468 rfl (fun k1 => ?_)
      have k1 : isK 20 5 476 := k1
      show Ok g mX9_failedOf (rmd 0) (FQ g (pIP (fun z => z = fz M r) M)) 7 [(0, rv g 468), (1, iv r), (2, iv t)] [rv g 476, iv t] M
      refine x_aload_n 0 dX9_failedOf_7 rfl rfl ?_
      refine x_getr (k := 20) (d := 14) dX9_failedOf_8 fl9_50 k_468 rfl (fun k2 => ?_)
      have k2 : isK 20 40 482 := k2
      show Ok g mX9_failedOf (rmd 0) (FQ g (pIP (fun z => z = fz M r) M)) 11 [(0, rv g 468), (1, iv r), (2, iv t)] [rv g 482, rv g 476, iv t] M
      refine x_iload_n 1 dX9_failedOf_11 rfl rfl ?_
      refine x_iald dX9_failedOf_12 k2 (by omega) (by omega) (by decide) (fun ⟨a3, a3'⟩ => ?_)
      refine x_iald dX9_failedOf_13 k1 (by omega) (by omega) (by decide) (fun ⟨a4, a4'⟩ => ?_)
      refine x_icmp_ge (tgt := 41) dX9_failedOf_14 (by decide) ⟨by omega, by omega⟩ ⟨by omega, by omega⟩ (fun c5 => ?_) (fun c5 => ?_)
      · refine x_iconst (-1) dX9_failedOf_41 rfl ?_
        refine x_iret dX9_failedOf_42 rfl rfl ?_
        exact ⟨_, rfl, rfl, (lst_eq (by omega) (Or.inl ⟨by omega, fun q q0 q1 e => e (j2 q q0 (by omega))⟩)).symm⟩
      · refine x_aload_n 0 dX9_failedOf_17 rfl rfl ?_
        refine x_getr (k := 26) (d := 20) dX9_failedOf_18 fl9_68 k_468 rfl (fun k6 => ?_)
        have k6 : isK 21 240 488 := k6
        show Ok g mX9_failedOf (rmd 0) (FQ g (pIP (fun z => z = fz M r) M)) 21 [(0, rv g 468), (1, iv r), (2, iv t)] [rv g 488] M
        refine x_bipush (6) dX9_failedOf_21 rfl ?_
        refine x_iload_n 1 dX9_failedOf_23 rfl rfl ?_
        refine x_imul dX9_failedOf_24 ?_
        refine x_iload_n 2 dX9_failedOf_25 rfl rfl ?_
        refine x_iadd dX9_failedOf_26 ?_
        refine x_cald dX9_failedOf_27 k6 (by omega) (by omega) (by decide) (fun ⟨a7, a7'⟩ => ?_)
        refine x_bipush (111) dX9_failedOf_28 rfl ?_
        refine x_icmp_eq (tgt := 35) dX9_failedOf_30 (by decide) ⟨by omega, by omega⟩ ⟨by decide, by decide⟩ (fun c8 => ?_) (fun c8 => ?_)
        · refine x_iinc (z := t) (lv' := [(2, iv (t + 1)), (0, rv g 468), (1, iv r)]) 2 dX9_failedOf_35 rfl (Nat.le_of_ble_eq_true rfl) rfl ?_
          refine x_goto (tgt := 2) dX9_failedOf_38 (by decide) ?_
          refine x_sub [1, 2, 0] rfl ?_
          exact ih_2 _ (by omega) (by omega) (by exact ext_lt j2 (by assumption)) (by omega)
        · refine x_iload_n 2 dX9_failedOf_33 rfl rfl ?_
          refine x_iret dX9_failedOf_34 rfl rfl ?_
          exact ⟨_, rfl, rfl, (lst_eq (by omega) (Or.inr ⟨by omega, by omega, by assumption, fun q q0 q1 e => e (j2 q q0 q1)⟩)).symm⟩
  refine x_iconst (0) dX9_failedOf_0 rfl ?_
  refine x_istore_n (lv' := [(2, iv 0), (0, rv g 468), (1, iv r)]) dX9_failedOf_1 rfl (Nat.le_of_ble_eq_true rfl) rfl ?_
  refine x_sub [1, 2, 0] rfl ?_
  exact h_2 _ _ (by omega) (by omega) (by intro q _ _; omega) (Nat.lt_succ_self _)

set_option maxHeartbeats 600000 in
set_option maxRecDepth 100000 in
theorem c_X9_verdictOf (g : GG) (M : Mem) (r : Int) (I : RB M) (r0 : 0 ≤ r) (r1 : r < M 468 18) : Ct g yX9_verdictOf cX9_verdictOf 3 (some .char) 1 [rv g 468, iv r] M (pIP (fun z => z = vz M r ∧ 0 ≤ z ∧ z < 65536) M) := by
  refine ct_of (by decide +kernel) (Nat.le_of_ble_eq_true rfl) ?_
  show Ok g mX9_verdictOf (rmd 1) (FQ g (pIP (fun z => z = vz M r ∧ 0 ≤ z ∧ z < 65536) M)) 0 [(0, rv g 468), (1, iv r)] [] M
  have i0 := I.rng
  have i1 := I.run r r0 r1
  have i2 := I.prob (M 482 r) (by omega) (by omega)
  refine x_aload_n 0 dX9_verdictOf_0 rfl rfl ?_
  refine x_iload_n 1 dX9_verdictOf_1 rfl rfl ?_
  refine x_callVIP (as := [iv r]) (rest := []) dX9_verdictOf_2 vl9_156 k_468 (c_X9_failedOf g M r I (by omega) (by omega)) rfl rfl (Nat.le_of_ble_eq_true rfl) ⟨Nat.le_of_ble_eq_true rfl, Nat.le_of_ble_eq_true rfl⟩ (fun z1 h2 => ?_)
  have hfz := h2
  have hfr := fz_rng (M := M) (r := r) (by omega)
  have hvz : vz M r = if fz M r = -1 then 97 else M 488 (6 * r + fz M r) := rfl
  rw [← hfz] at hvz hfr
  refine x_istore_n (lv' := [(2, iv z1), (0, rv g 468), (1, iv r)]) dX9_verdictOf_5 rfl (Nat.le_of_ble_eq_true rfl) rfl ?_
  refine x_iload_n 0 dX9_verdictOf_6 rfl rfl ?_
  refine x_iconst (-1) dX9_verdictOf_7 rfl ?_
  refine x_icmp_ne (tgt := 16) dX9_verdictOf_8 (by decide) ⟨by omega, by omega⟩ ⟨by decide, by decide⟩ (fun c4 => ?_) (fun c4 => ?_)
  · have i3 := I.res r _ r0 r1 (show 0 ≤ z1 by omega) (by omega)
    refine x_aload_n 1 dX9_verdictOf_16 rfl rfl ?_
    refine x_getr (k := 26) (d := 20) dX9_verdictOf_17 fl9_68 k_468 rfl (fun k5 => ?_)
    have k5 : isK 21 240 488 := k5
    show Ok g mX9_verdictOf (rmd 1) (FQ g (pIP (fun z => z = vz M r ∧ 0 ≤ z ∧ z < 65536) M)) 20 [(2, iv z1), (0, rv g 468), (1, iv r)] [rv g 488] M
    refine x_bipush (6) dX9_verdictOf_20 rfl ?_
    refine x_iload_n 2 dX9_verdictOf_22 rfl rfl ?_
    refine x_imul dX9_verdictOf_23 ?_
    refine x_iload_n 0 dX9_verdictOf_24 rfl rfl ?_
    refine x_iadd dX9_verdictOf_25 ?_
    refine x_cald dX9_verdictOf_26 k5 (by omega) (by omega) (by decide) (fun ⟨a6, a6'⟩ => ?_)
    refine x_iret dX9_verdictOf_27 rfl (iZ_char (by omega) (by omega)) ?_
    refine ⟨_, rfl, rfl, ?_, by omega, by omega⟩
    rw [hvz]
    first | rw [if_pos (by omega)] | rw [if_neg (by omega)]
  · refine x_bipush (97) dX9_verdictOf_11 rfl ?_
    refine x_goto (tgt := 27) dX9_verdictOf_13 (by decide) ?_
    refine x_iret dX9_verdictOf_27 rfl (iZ_char (by omega) (by omega)) ?_
    refine ⟨_, rfl, rfl, ?_, by omega, by omega⟩
    rw [hvz]
    first | rw [if_pos (by omega)] | rw [if_neg (by omega)]

set_option maxHeartbeats 600000 in
set_option maxRecDepth 100000 in
theorem c_X9_isPending (g : GG) (M : Mem) (r : Int) (I : RB M) (r0 : 0 ≤ r) (r1 : r < M 468 18) : Ct g yX9_isPending cX9_isPending 2 (some .boolean) 0 [rv g 468, iv r] M (pIP (fun z => (z = 1 ∧ Pnd M r) ∨ (z = 0 ∧ ¬ Pnd M r)) M) := by
  refine ct_of (by decide +kernel) (Nat.le_of_ble_eq_true rfl) ?_
  show Ok g mX9_isPending (rmd 0) (FQ g (pIP (fun z => (z = 1 ∧ Pnd M r) ∨ (z = 0 ∧ ¬ Pnd M r)) M)) 0 [(0, rv g 468), (1, iv r)] [] M
  have i0 := I.rng
  have i1 := I.run r r0 r1
  have i3 := I.opn r r0 (by omega)
  refine x_aload_n 0 dX9_isPending_0 rfl rfl ?_
  refine x_geti (k := 36) (kI := 36) dX9_isPending_1 fl9_92 k_468 rfl rfl (fun ⟨a1, a1'⟩ => ?_)
  refine x_iconst (-1) dX9_isPending_4 rfl ?_
  refine x_icmp_eq (tgt := 34) dX9_isPending_5 (by decide) ⟨by omega, by omega⟩ ⟨by decide, by decide⟩ (fun c2 => ?_) (fun c2 => ?_)
  · refine x_iconst (0) dX9_isPending_34 rfl ?_
    refine x_iret dX9_isPending_35 rfl (iZ_bool (by omega)) ?_
    exact ⟨_, rfl, rfl, by unfold Pnd; omega⟩
  · refine x_aload_n 0 dX9_isPending_8 rfl rfl ?_
    refine x_getr (k := 21) (d := 15) dX9_isPending_9 fl9_53 k_468 rfl (fun k3 => ?_)
    have k3 : isK 20 40 483 := k3
    show Ok g mX9_isPending (rmd 0) (FQ g (pIP (fun z => (z = 1 ∧ Pnd M r) ∨ (z = 0 ∧ ¬ Pnd M r)) M)) 12 [(0, rv g 468), (1, iv r)] [rv g 483] M
    refine x_iload_n 1 dX9_isPending_12 rfl rfl ?_
    refine x_iald dX9_isPending_13 k3 (by omega) (by omega) (by decide) (fun ⟨a4, a4'⟩ => ?_)
    refine x_aload_n 0 dX9_isPending_14 rfl rfl ?_
    refine x_geti (k := 36) (kI := 36) dX9_isPending_15 fl9_92 k_468 rfl rfl (fun ⟨a5, a5'⟩ => ?_)
    refine x_icmp_lt (tgt := 34) dX9_isPending_18 (by decide) ⟨by omega, by omega⟩ ⟨by omega, by omega⟩ (fun c6 => ?_) (fun c6 => ?_)
    · refine x_iconst (0) dX9_isPending_34 rfl ?_
      refine x_iret dX9_isPending_35 rfl (iZ_bool (by omega)) ?_
      exact ⟨_, rfl, rfl, by unfold Pnd; omega⟩
    · refine x_aload_n 0 dX9_isPending_21 rfl rfl ?_
      refine x_getr (k := 37) (d := 28) dX9_isPending_22 fl9_96 k_468 rfl (fun k7 => ?_)
      have k7 : isK 22 40 496 := k7
      show Ok g mX9_isPending (rmd 0) (FQ g (pIP (fun z => (z = 1 ∧ Pnd M r) ∨ (z = 0 ∧ ¬ Pnd M r)) M)) 25 [(0, rv g 468), (1, iv r)] [rv g 496] M
      refine x_iload_n 1 dX9_isPending_25 rfl rfl ?_
      refine x_zald dX9_isPending_26 k7 (by omega) (by omega) (by decide) (fun ⟨a8, a8'⟩ => ?_)
      refine x_if_ne (tgt := 34) dX9_isPending_27 (by decide) ⟨by omega, by omega⟩ (fun c9 => ?_) (fun c9 => ?_)
      · refine x_iconst (0) dX9_isPending_34 rfl ?_
        refine x_iret dX9_isPending_35 rfl (iZ_bool (by omega)) ?_
        exact ⟨_, rfl, rfl, by unfold Pnd; omega⟩
      · refine x_iconst (1) dX9_isPending_30 rfl ?_
        refine x_goto (tgt := 35) dX9_isPending_31 (by decide) ?_
        refine x_iret dX9_isPending_35 rfl (iZ_bool (by omega)) ?_
        exact ⟨_, rfl, rfl, by unfold Pnd; omega⟩

set_option maxHeartbeats 600000 in
set_option maxRecDepth 100000 in
theorem c_X9_hasSolved (g : GG) (M : Mem) (t p : Int) (I : RB M) (t0 : 0 ≤ t) (t1 : t ≤ 100) (p0 : 0 ≤ p) (p1 : p ≤ 100) : Ct g yX9_hasSolved cX9_hasSolved 5 (some .boolean) 2 [rv g 468, iv t, iv p] M (pIP (fun z => (z = 1 ∧ Sol M t p) ∨ (z = 0 ∧ ¬ Sol M t p)) M) := by
  refine ct_of (by decide +kernel) (Nat.le_of_ble_eq_true rfl) ?_
  show Ok g mX9_hasSolved (rmd 2) (FQ g (pIP (fun z => (z = 1 ∧ Sol M t p) ∨ (z = 0 ∧ ¬ Sol M t p)) M)) 0 [(0, rv g 468), (1, iv t), (2, iv p)] [] M
  have i0 := I.rng
  have h_5 : ∀ (n_5 : Nat) (b : Int) (r : Int), (0 ≤ r) → (r ≤ M 468 18) → ((b = 1 ∧ ∃ q, 0 ≤ q ∧ q < r ∧ (M 481 (q)) = t ∧ (M 482 (q)) = p ∧ Acc M q) ∨ (b = 0 ∧ ∀ q, 0 ≤ q → q < r → ¬ ((M 481 (q)) = t ∧ (M 482 (q)) = p ∧ Acc M q))) → (M 468 18 - r).toNat < n_5 → Ok g mX9_hasSolved (rmd 2) (FQ g (pIP (fun z => (z = 1 ∧ Sol M t p) ∨ (z = 0 ∧ ¬ Sol M t p)) M)) 5 [(0, rv g 468), (1, iv t), (2, iv p), (3, iv b), (4, iv r)] [] M := by
    intro n_5
    induction n_5 with
    | zero => intro b r j0 j1 j2 hn_5; exact absurd hn_5 (Nat.not_lt_zero _)
    | succ n_5 ih_5 =>
      intro b r j0 j1 j2 hn_5
      refine x_iload 4 dX9_hasSolved_5 rfl ?_
      refine x_aload_n 0 dX9_hasSolved_7 rfl rfl ?_
      refine x_geti (k := 18) (kI := 18) dX9_hasSolved_8 fl9_130 k_468 rfl rfl (fun ⟨a1, a1'⟩ => ?_)
      refine x_icmp_ge (tgt := 61) dX9_hasSolved_11 (by decide) ⟨by omega, by omega⟩ ⟨by omega, by omega⟩ (fun c2 => ?_) (fun c2 => ?_)
      · refine x_iload_n 3 dX9_hasSolved_61 rfl rfl ?_
        refine x_iret dX9_hasSolved_62 rfl (iZ_bool (by omega)) ?_
        refine ⟨_, rfl, rfl, ?_⟩
        rcases j2 with ⟨e, q, q0, q1, q2⟩ | ⟨e, q⟩
        · left; exact ⟨e, q, q0, by omega, q2⟩
        · right; refine ⟨e, ?_⟩; rintro ⟨w, w0, w1, w2⟩; exact q w w0 (by omega) w2
      · have i1 := I.run r (by omega) (by omega)
        refine x_iload_n 3 dX9_hasSolved_14 rfl rfl ?_
        refine x_aload_n 0 dX9_hasSolved_15 rfl rfl ?_
        refine x_getr (k := 19) (d := 13) dX9_hasSolved_16 fl9_47 k_468 rfl (fun k3 => ?_)
        have k3 : isK 20 40 481 := k3
        show Ok g mX9_hasSolved (rmd 2) (FQ g (pIP (fun z => (z = 1 ∧ Sol M t p) ∨ (z = 0 ∧ ¬ Sol M t p)) M)) 19 [(0, rv g 468), (1, iv t), (2, iv p), (3, iv b), (4, iv r)] [rv g 481, iv b] M
        refine x_iload 4 dX9_hasSolved_19 rfl ?_
        refine x_iald dX9_hasSolved_21 k3 (by omega) (by omega) (by decide) (fun ⟨a4, a4'⟩ => ?_)
        refine x_iload_n 1 dX9_hasSolved_22 rfl rfl ?_
        refine x_icmp_ne (tgt := 52) dX9_hasSolved_23 (by decide) ⟨by omega, by omega⟩ ⟨by omega, by omega⟩ (fun c5 => ?_) (fun c5 => ?_)
        · refine x_iconst (0) dX9_hasSolved_52 rfl ?_
          refine x_ior dX9_hasSolved_53 (by omega) (by omega) ?_
          refine x_istore_n (lv' := [(3, iv (if b = 1 ∨ 0 = 1 then 1 else 0)), (0, rv g 468), (1, iv t), (2, iv p), (4, iv r)]) dX9_hasSolved_54 rfl (Nat.le_of_ble_eq_true rfl) rfl ?_
          refine x_iinc (z := r) (lv' := [(4, iv (r + 1)), (3, iv (if b = 1 ∨ 0 = 1 then 1 else 0)), (0, rv g 468), (1, iv t), (2, iv p)]) 4 dX9_hasSolved_55 rfl (Nat.le_of_ble_eq_true rfl) rfl ?_
          refine x_goto (tgt := 5) dX9_hasSolved_58 (by decide) ?_
          refine x_sub [2, 3, 4, 1, 0] rfl ?_
          exact ih_5 _ _ (by omega) (by omega) (by rcases j2 with ⟨e, q, q0, q1, q2⟩ | ⟨e, q⟩ <;> subst e; left; exact ⟨by simp, q, q0, by omega, q2⟩; first | (left; exact ⟨by simp, r, by omega, by omega, by omega, by omega, by grind⟩) | (right; exact ⟨by simp, ext_lt q (by grind)⟩)) (by omega)
        · refine x_aload_n 0 dX9_hasSolved_26 rfl rfl ?_
          refine x_getr (k := 20) (d := 14) dX9_hasSolved_27 fl9_50 k_468 rfl (fun k6 => ?_)
          have k6 : isK 20 40 482 := k6
          show Ok g mX9_hasSolved (rmd 2) (FQ g (pIP (fun z => (z = 1 ∧ Sol M t p) ∨ (z = 0 ∧ ¬ Sol M t p)) M)) 30 [(0, rv g 468), (1, iv t), (2, iv p), (3, iv b), (4, iv r)] [rv g 482, iv b] M
          refine x_iload 4 dX9_hasSolved_30 rfl ?_
          refine x_iald dX9_hasSolved_32 k6 (by omega) (by omega) (by decide) (fun ⟨a7, a7'⟩ => ?_)
          refine x_iload_n 2 dX9_hasSolved_33 rfl rfl ?_
          refine x_icmp_ne (tgt := 52) dX9_hasSolved_34 (by decide) ⟨by omega, by omega⟩ ⟨by omega, by omega⟩ (fun c8 => ?_) (fun c8 => ?_)
          · refine x_iconst (0) dX9_hasSolved_52 rfl ?_
            refine x_ior dX9_hasSolved_53 (by omega) (by omega) ?_
            refine x_istore_n (lv' := [(3, iv (if b = 1 ∨ 0 = 1 then 1 else 0)), (0, rv g 468), (1, iv t), (2, iv p), (4, iv r)]) dX9_hasSolved_54 rfl (Nat.le_of_ble_eq_true rfl) rfl ?_
            refine x_iinc (z := r) (lv' := [(4, iv (r + 1)), (3, iv (if b = 1 ∨ 0 = 1 then 1 else 0)), (0, rv g 468), (1, iv t), (2, iv p)]) 4 dX9_hasSolved_55 rfl (Nat.le_of_ble_eq_true rfl) rfl ?_
            refine x_goto (tgt := 5) dX9_hasSolved_58 (by decide) ?_
            refine x_sub [2, 3, 4, 1, 0] rfl ?_
            exact ih_5 _ _ (by omega) (by omega) (by rcases j2 with ⟨e, q, q0, q1, q2⟩ | ⟨e, q⟩ <;> subst e; left; exact ⟨by simp, q, q0, by omega, q2⟩; first | (left; exact ⟨by simp, r, by omega, by omega, by omega, by omega, by grind⟩) | (right; exact ⟨by simp, ext_lt q (by grind)⟩)) (by omega)
          · refine x_aload_n 0 dX9_hasSolved_37 rfl rfl ?_
            refine x_iload 4 dX9_hasSolved_38 rfl ?_
            refine x_callVIP (as := [iv r]) (rest := [iv b]) dX9_hasSolved_40 vl9_160 k_468 (c_X9_verdictOf g M r I (by omega) (by omega)) rfl rfl (Nat.le_of_ble_eq_true rfl) ⟨Nat.le_of_ble_eq_true rfl, Nat.le_of_ble_eq_true rfl⟩ (fun z9 h10 => ?_)
            have h10a := vz_acc I (r := r) (by omega) (by omega)
            rw [← h10.1] at h10a
            refine x_bipush (97) dX9_hasSolved_43 rfl ?_
            refine x_icmp_ne (tgt := 52) dX9_hasSolved_45 (by decide) ⟨by omega, by omega⟩ ⟨by decide, by decide⟩ (fun c12 => ?_) (fun c12 => ?_)
            · refine x_iconst (0) dX9_hasSolved_52 rfl ?_
              refine x_ior dX9_hasSolved_53 (by omega) (by omega) ?_
              refine x_istore_n (lv' := [(3, iv (if b = 1 ∨ 0 = 1 then 1 else 0)), (0, rv g 468), (1, iv t), (2, iv p), (4, iv r)]) dX9_hasSolved_54 rfl (Nat.le_of_ble_eq_true rfl) rfl ?_
              refine x_iinc (z := r) (lv' := [(4, iv (r + 1)), (3, iv (if b = 1 ∨ 0 = 1 then 1 else 0)), (0, rv g 468), (1, iv t), (2, iv p)]) 4 dX9_hasSolved_55 rfl (Nat.le_of_ble_eq_true rfl) rfl ?_
              refine x_goto (tgt := 5) dX9_hasSolved_58 (by decide) ?_
              refine x_sub [2, 3, 4, 1, 0] rfl ?_
              exact ih_5 _ _ (by omega) (by omega) (by rcases j2 with ⟨e, q, q0, q1, q2⟩ | ⟨e, q⟩ <;> subst e; left; exact ⟨by simp, q, q0, by omega, q2⟩; first | (left; exact ⟨by simp, r, by omega, by omega, by omega, by omega, by grind⟩) | (right; exact ⟨by simp, ext_lt q (by grind)⟩)) (by omega)
            · refine x_iconst (1) dX9_hasSolved_48 rfl ?_
              refine x_goto (tgt := 53) dX9_hasSolved_49 (by decide) ?_
              refine x_ior dX9_hasSolved_53 (by omega) (by omega) ?_
              refine x_istore_n (lv' := [(3, iv (if b = 1 ∨ 1 = 1 then 1 else 0)), (0, rv g 468), (1, iv t), (2, iv p), (4, iv r)]) dX9_hasSolved_54 rfl (Nat.le_of_ble_eq_true rfl) rfl ?_
              refine x_iinc (z := r) (lv' := [(4, iv (r + 1)), (3, iv (if b = 1 ∨ 1 = 1 then 1 else 0)), (0, rv g 468), (1, iv t), (2, iv p)]) 4 dX9_hasSolved_55 rfl (Nat.le_of_ble_eq_true rfl) rfl ?_
              refine x_goto (tgt := 5) dX9_hasSolved_58 (by decide) ?_
              refine x_sub [2, 3, 4, 1, 0] rfl ?_
              exact ih_5 _ _ (by omega) (by omega) (by rcases j2 with ⟨e, q, q0, q1, q2⟩ | ⟨e, q⟩ <;> subst e; left; exact ⟨by simp, q, q0, by omega, q2⟩; first | (left; exact ⟨by simp, r, by omega, by omega, by omega, by omega, by grind⟩) | (right; exact ⟨by simp, ext_lt q (by grind)⟩)) (by omega)
  refine x_iconst (0) dX9_hasSolved_0 rfl ?_
  refine x_istore_n (lv' := [(3, iv 0), (0, rv g 468), (1, iv t), (2, iv p)]) dX9_hasSolved_1 rfl (Nat.le_of_ble_eq_true rfl) rfl ?_
  refine x_iconst (0) dX9_hasSolved_2 rfl ?_
  refine x_istore (lv' := [(4, iv 0), (3, iv 0), (0, rv g 468), (1, iv t), (2, iv p)]) dX9_hasSolved_3 (Nat.le_of_ble_eq_true rfl) rfl ?_
  refine x_sub [2, 3, 4, 1, 0] rfl ?_
  exact h_5 _ _ _ (by omega) (by omega) (by right; exact ⟨rfl, fun q _ _ => by omega⟩) (Nat.lt_succ_self _)

set_option maxHeartbeats 600000 in
set_option maxRecDepth 100000 in
theorem c_X9_pendingOf (g : GG) (M : Mem) (t p : Int) (I : RB M) (t0 : 0 ≤ t) (t1 : t ≤ 100) (p0 : 0 ≤ p) (p1 : p ≤ 100) : Ct g yX9_pendingOf cX9_pendingOf 5 (some .int) 1 [rv g 468, iv t, iv p] M (pIP (fun z => z = pnd M t p) M) := by
  refine ct_of (by decide +kernel) (Nat.le_of_ble_eq_true rfl) ?_
  show Ok g mX9_pendingOf (rmd 1) (FQ g (pIP (fun z => z = pnd M t p) M)) 0 [(0, rv g 468), (1, iv t), (2, iv p)] [] M
  have i0 := I.rng
  have h_5 : ∀ (n_5 : Nat) (c : Int) (r : Int), (0 ≤ r) → (r ≤ M 468 18) → (c = cnt (fun r => (M 481 (r)) = t ∧ (M 482 (r)) = p ∧ Pnd M r) r) → (M 468 18 - r).toNat < n_5 → Ok g mX9_pendingOf (rmd 1) (FQ g (pIP (fun z => z = pnd M t p) M)) 5 [(0, rv g 468), (1, iv t), (2, iv p), (3, iv c), (4, iv r)] [] M := by
    intro n_5
    induction n_5 with
    | zero => intro c r j0 j1 j2 hn_5; exact absurd hn_5 (Nat.not_lt_zero _)
    | succ n_5 ih_5 =>
      intro c r j0 j1 j2 hn_5
      refine x_iload 4 dX9_pendingOf_5 rfl ?_
      refine x_aload_n 0 dX9_pendingOf_7 rfl rfl ?_
      refine x_geti (k := 18) (kI := 18) dX9_pendingOf_8 fl9_130 k_468 rfl rfl (fun ⟨a1, a1'⟩ => ?_)
      refine x_icmp_ge (tgt := 59) dX9_pendingOf_11 (by decide) ⟨by omega, by omega⟩ ⟨by omega, by omega⟩ (fun c2 => ?_) (fun c2 => ?_)
      · refine x_iload_n 3 dX9_pendingOf_59 rfl rfl ?_
        refine x_iret dX9_pendingOf_60 rfl rfl ?_
        exact ⟨_, rfl, rfl, by rw [j2, show r = M 468 18 by omega]; rfl⟩
      · have i1 := I.run r (by omega) (by omega)
        refine x_iload_n 3 dX9_pendingOf_14 rfl rfl ?_
        refine x_aload_n 0 dX9_pendingOf_15 rfl rfl ?_
        refine x_getr (k := 19) (d := 13) dX9_pendingOf_16 fl9_47 k_468 rfl (fun k3 => ?_)
        have k3 : isK 20 40 481 := k3
        show Ok g mX9_pendingOf (rmd 1) (FQ g (pIP (fun z => z = pnd M t p) M)) 19 [(0, rv g 468), (1, iv t), (2, iv p), (3, iv c), (4, iv r)] [rv g 481, iv c] M
        refine x_iload 4 dX9_pendingOf_19 rfl ?_
        refine x_iald dX9_pendingOf_21 k3 (by omega) (by omega) (by decide) (fun ⟨a4, a4'⟩ => ?_)
        refine x_iload_n 1 dX9_pendingOf_22 rfl rfl ?_
        refine x_icmp_ne (tgt := 50) dX9_pendingOf_23 (by decide) ⟨by omega, by omega⟩ ⟨by omega, by omega⟩ (fun c5 => ?_) (fun c5 => ?_)
        · refine x_iconst (0) dX9_pendingOf_50 rfl ?_
          refine x_iadd dX9_pendingOf_51 ?_
          refine x_istore_n (lv' := [(3, iv (c + 0)), (0, rv g 468), (1, iv t), (2, iv p), (4, iv r)]) dX9_pendingOf_52 rfl (Nat.le_of_ble_eq_true rfl) rfl ?_
          refine x_iinc (z := r) (lv' := [(4, iv (r + 1)), (3, iv (c + 0)), (0, rv g 468), (1, iv t), (2, iv p)]) 4 dX9_pendingOf_53 rfl (Nat.le_of_ble_eq_true rfl) rfl ?_
          refine x_goto (tgt := 5) dX9_pendingOf_56 (by decide) ?_
          refine x_sub [2, 3, 4, 1, 0] rfl ?_
          exact ih_5 _ _ (by omega) (by omega) (by first | (rw [cnt_t (by omega) (by grind)]; omega) | (rw [cnt_f (by omega) (by grind)]; omega)) (by omega)
        · refine x_aload_n 0 dX9_pendingOf_26 rfl rfl ?_
          refine x_getr (k := 20) (d := 14) dX9_pendingOf_27 fl9_50 k_468 rfl (fun k6 => ?_)
          have k6 : isK 20 40 482 := k6
          show Ok g mX9_pendingOf (rmd 1) (FQ g (pIP (fun z => z = pnd M t p) M)) 30 [(0, rv g 468), (1, iv t), (2, iv p), (3, iv c), (4, iv r)] [rv g 482, iv c] M
          refine x_iload 4 dX9_pendingOf_30 rfl ?_
          refine x_iald dX9_pendingOf_32 k6 (by omega) (by omega) (by decide) (fun ⟨a7, a7'⟩ => ?_)
          refine x_iload_n 2 dX9_pendingOf_33 rfl rfl ?_
          refine x_icmp_ne (tgt := 50) dX9_pendingOf_34 (by decide) ⟨by omega, by omega⟩ ⟨by omega, by omega⟩ (fun c8 => ?_) (fun c8 => ?_)
          · refine x_iconst (0) dX9_pendingOf_50 rfl ?_
            refine x_iadd dX9_pendingOf_51 ?_
            refine x_istore_n (lv' := [(3, iv (c + 0)), (0, rv g 468), (1, iv t), (2, iv p), (4, iv r)]) dX9_pendingOf_52 rfl (Nat.le_of_ble_eq_true rfl) rfl ?_
            refine x_iinc (z := r) (lv' := [(4, iv (r + 1)), (3, iv (c + 0)), (0, rv g 468), (1, iv t), (2, iv p)]) 4 dX9_pendingOf_53 rfl (Nat.le_of_ble_eq_true rfl) rfl ?_
            refine x_goto (tgt := 5) dX9_pendingOf_56 (by decide) ?_
            refine x_sub [2, 3, 4, 1, 0] rfl ?_
            exact ih_5 _ _ (by omega) (by omega) (by first | (rw [cnt_t (by omega) (by grind)]; omega) | (rw [cnt_f (by omega) (by grind)]; omega)) (by omega)
          · refine x_aload_n 0 dX9_pendingOf_37 rfl rfl ?_
            refine x_iload 4 dX9_pendingOf_38 rfl ?_
            refine x_callVIP (as := [iv r]) (rest := [iv c]) dX9_pendingOf_40 vl9_209 k_468 (c_X9_isPending g M r I (by omega) (by omega)) rfl rfl (Nat.le_of_ble_eq_true rfl) ⟨Nat.le_of_ble_eq_true rfl, Nat.le_of_ble_eq_true rfl⟩ (fun z9 h10 => ?_)
            refine x_if_eq (tgt := 50) dX9_pendingOf_43 (by decide) ⟨by omega, by omega⟩ (fun c12 => ?_) (fun c12 => ?_)
            · refine x_iconst (0) dX9_pendingOf_50 rfl ?_
              refine x_iadd dX9_pendingOf_51 ?_
              refine x_istore_n (lv' := [(3, iv (c + 0)), (0, rv g 468), (1, iv t), (2, iv p), (4, iv r)]) dX9_pendingOf_52 rfl (Nat.le_of_ble_eq_true rfl) rfl ?_
              refine x_iinc (z := r) (lv' := [(4, iv (r + 1)), (3, iv (c + 0)), (0, rv g 468), (1, iv t), (2, iv p)]) 4 dX9_pendingOf_53 rfl (Nat.le_of_ble_eq_true rfl) rfl ?_
              refine x_goto (tgt := 5) dX9_pendingOf_56 (by decide) ?_
              refine x_sub [2, 3, 4, 1, 0] rfl ?_
              exact ih_5 _ _ (by omega) (by omega) (by first | (rw [cnt_t (by omega) (by grind)]; omega) | (rw [cnt_f (by omega) (by grind)]; omega)) (by omega)
            · refine x_iconst (1) dX9_pendingOf_46 rfl ?_
              refine x_goto (tgt := 51) dX9_pendingOf_47 (by decide) ?_
              refine x_iadd dX9_pendingOf_51 ?_
              refine x_istore_n (lv' := [(3, iv (c + 1)), (0, rv g 468), (1, iv t), (2, iv p), (4, iv r)]) dX9_pendingOf_52 rfl (Nat.le_of_ble_eq_true rfl) rfl ?_
              refine x_iinc (z := r) (lv' := [(4, iv (r + 1)), (3, iv (c + 1)), (0, rv g 468), (1, iv t), (2, iv p)]) 4 dX9_pendingOf_53 rfl (Nat.le_of_ble_eq_true rfl) rfl ?_
              refine x_goto (tgt := 5) dX9_pendingOf_56 (by decide) ?_
              refine x_sub [2, 3, 4, 1, 0] rfl ?_
              exact ih_5 _ _ (by omega) (by omega) (by first | (rw [cnt_t (by omega) (by grind)]; omega) | (rw [cnt_f (by omega) (by grind)]; omega)) (by omega)
  refine x_iconst (0) dX9_pendingOf_0 rfl ?_
  refine x_istore_n (lv' := [(3, iv 0), (0, rv g 468), (1, iv t), (2, iv p)]) dX9_pendingOf_1 rfl (Nat.le_of_ble_eq_true rfl) rfl ?_
  refine x_iconst (0) dX9_pendingOf_2 rfl ?_
  refine x_istore (lv' := [(4, iv 0), (3, iv 0), (0, rv g 468), (1, iv t), (2, iv p)]) dX9_pendingOf_3 (Nat.le_of_ble_eq_true rfl) rfl ?_
  refine x_sub [2, 3, 4, 1, 0] rfl ?_
  exact h_5 _ _ _ (by omega) (by omega) (by exact (cnt_0 _).symm) (Nat.lt_succ_self _)
