set_option maxHeartbeats 600000 in
set_option maxRecDepth 100000 in
theorem c_X8_isWithin (g : GG) (M : Mem) (v l h : Int) (hv : rg v) (hl : rg l) (hh : rg h) : Ct g yX8_isWithin cX8_isWithin 3 (some .boolean) 0 [iv v, iv l, iv h] M (pIP (fun z => (z = 1 ∧ l ≤ v ∧ v ≤ h) ∨ (z = 0 ∧ (v < l ∨ h < v))) M) := by
  refine ct_of (by decide +kernel) (Nat.le_of_ble_eq_true rfl) ?_
  show Ok g mX8_isWithin (rmd 0) (FQ g (pIP (fun z => (z = 1 ∧ l ≤ v ∧ v ≤ h) ∨ (z = 0 ∧ (v < l ∨ h < v))) M)) 0 [(0, iv v), (1, iv l), (2, iv h)] [] M
  have hv1 := hv.1
  have hv2 := hv.2
  have hl1 := hl.1
  have hl2 := hl.2
  have hh1 := hh.1
  have hh2 := hh.2
  refine x_iload_n 0 dX8_isWithin_0 rfl rfl ?_
  refine x_iload_n 1 dX8_isWithin_1 rfl rfl ?_
  refine x_icmp_lt (tgt := 14) dX8_isWithin_2 (by decide) ⟨by omega, by omega⟩ ⟨by omega, by omega⟩ (fun c1 => ?_) (fun c1 => ?_)
  · refine x_iconst (0) dX8_isWithin_14 rfl ?_
    refine x_iret dX8_isWithin_15 rfl (iZ_bool (by omega)) ?_
    exact ⟨_, rfl, rfl, by omega⟩
  · refine x_iload_n 0 dX8_isWithin_5 rfl rfl ?_
    refine x_iload_n 2 dX8_isWithin_6 rfl rfl ?_
    refine x_icmp_gt (tgt := 14) dX8_isWithin_7 (by decide) ⟨by omega, by omega⟩ ⟨by omega, by omega⟩ (fun c2 => ?_) (fun c2 => ?_)
    · refine x_iconst (0) dX8_isWithin_14 rfl ?_
      refine x_iret dX8_isWithin_15 rfl (iZ_bool (by omega)) ?_
      exact ⟨_, rfl, rfl, by omega⟩
    · refine x_iconst (1) dX8_isWithin_10 rfl ?_
      refine x_goto (tgt := 15) dX8_isWithin_11 (by decide) ?_
      refine x_iret dX8_isWithin_15 rfl (iZ_bool (by omega)) ?_
      exact ⟨_, rfl, rfl, by omega⟩

set_option maxHeartbeats 600000 in
set_option maxRecDepth 100000 in
theorem c_X4_hasTest (g : GG) (M : Mem) (o q : Int) (ko : isK 4 4 o) (hq : rg q) (ht : 0 ≤ M o 3 ∧ M o 3 ≤ 6) : Ct g yX4_hasTest cX4_hasTest 2 (some .boolean) 1 [rv g o, iv q] M (pIP (fun z => (z = 1 ∧ 0 ≤ q ∧ q < M o 3) ∨ (z = 0 ∧ (q < 0 ∨ M o 3 ≤ q))) M) := by
  refine ct_of (by decide +kernel) (Nat.le_of_ble_eq_true rfl) ?_
  show Ok g mX4_hasTest (rmd 1) (FQ g (pIP (fun z => (z = 1 ∧ 0 ≤ q ∧ q < M o 3) ∨ (z = 0 ∧ (q < 0 ∨ M o 3 ≤ q))) M)) 0 [(0, rv g o), (1, iv q)] [] M
  have hq1 := hq.1
  have hq2 := hq.2
  refine x_iload_n 1 dX4_hasTest_0 rfl rfl ?_
  refine x_iconst (0) dX4_hasTest_1 rfl ?_
  refine x_aload_n 0 dX4_hasTest_2 rfl rfl ?_
  refine x_geti (k := 3) (kI := 3) dX4_hasTest_3 fl4_24 ko rfl rfl (fun ⟨a1, a1'⟩ => ?_)
  refine x_iconst (1) dX4_hasTest_6 rfl ?_
  refine x_isub dX4_hasTest_7 ?_
  refine x_callNIP (as := [iv q, iv 0, iv ((M o 3) - 1)]) (rest := []) dX4_hasTest_8 nl4_28 (c_X8_isWithin g M q 0 ((M o 3) - 1) ⟨by omega, by omega⟩ ⟨by omega, by omega⟩ ⟨by omega, by omega⟩) rfl rfl (Nat.le_of_ble_eq_true rfl) ⟨Nat.le_of_ble_eq_true rfl, Nat.le_of_ble_eq_true rfl⟩ (fun z2 h3 => ?_)
  refine x_iret dX4_hasTest_11 rfl (iZ_bool (by omega)) ?_
  exact ⟨_, rfl, rfl, by omega⟩

set_option maxHeartbeats 600000 in
set_option maxRecDepth 100000 in
theorem c_X7_numberAt (g : GG) (M : Mem) (s i : Int) (s0 : 0 ≤ s ∧ s < 240) (i0 : 0 ≤ i ∧ i < 6) : Ct g yX7_numberAt cX7_numberAt 3 (some .int) 0 [rv g 13, iv s, iv i] M (pIP (fun z => z = M 14 (s * 6 + i) ∧ rg z) M) := by
  refine ct_of (by decide +kernel) (Nat.le_of_ble_eq_true rfl) ?_
  show Ok g mX7_numberAt (rmd 0) (FQ g (pIP (fun z => z = M 14 (s * 6 + i) ∧ rg z) M)) 0 [(0, rv g 13), (1, iv s), (2, iv i)] [] M
  refine x_aload_n 0 dX7_numberAt_0 rfl rfl ?_
  refine x_getr (k := 0) (d := 1) dX7_numberAt_1 fl7_9 k_13 rfl (fun k1 => ?_)
  have k1 : isK 20 1440 14 := k1
  show Ok g mX7_numberAt (rmd 0) (FQ g (pIP (fun z => z = M 14 (s * 6 + i) ∧ rg z) M)) 4 [(0, rv g 13), (1, iv s), (2, iv i)] [rv g 14] M
  refine x_iload_n 1 dX7_numberAt_4 rfl rfl ?_
  refine x_bipush (6) dX7_numberAt_5 rfl ?_
  refine x_imul dX7_numberAt_7 ?_
  refine x_iload_n 2 dX7_numberAt_8 rfl rfl ?_
  refine x_iadd dX7_numberAt_9 ?_
  refine x_iald dX7_numberAt_10 k1 (by omega) (by omega) (by decide) (fun ⟨a2, a2'⟩ => ?_)
  refine x_iret dX7_numberAt_11 rfl rfl ?_
  exact ⟨_, rfl, rfl, rfl, by constructor <;> omega⟩

set_option maxHeartbeats 600000 in
set_option maxRecDepth 100000 in
theorem c_X7_sizeOf (g : GG) (M : Mem) (s : Int) (s0 : 0 ≤ s ∧ s < 240) : Ct g yX7_sizeOf cX7_sizeOf 2 (some .int) 0 [rv g 13, iv s] M (pIP (fun z => z = M 15 s ∧ rg z) M) := by
  refine ct_of (by decide +kernel) (Nat.le_of_ble_eq_true rfl) ?_
  show Ok g mX7_sizeOf (rmd 0) (FQ g (pIP (fun z => z = M 15 s ∧ rg z) M)) 0 [(0, rv g 13), (1, iv s)] [] M
  refine x_iload_n 1 dX7_sizeOf_0 rfl rfl ?_
  refine x_if_lt (tgt := 11) dX7_sizeOf_1 (by decide) ⟨by omega, by omega⟩ (fun c1 => ?_) (fun c1 => ?_)
  · exfalso; omega
  · refine x_iload_n 1 dX7_sizeOf_4 rfl rfl ?_
    refine x_sipush (240) dX7_sizeOf_5 rfl ?_
    refine x_icmp_lt (tgt := 15) dX7_sizeOf_8 (by decide) ⟨by omega, by omega⟩ ⟨by decide, by decide⟩ (fun c2 => ?_) (fun c2 => ?_)
    · refine x_aload_n 0 dX7_sizeOf_15 rfl rfl ?_
      refine x_getr (k := 1) (d := 2) dX7_sizeOf_16 fl7_15 k_13 rfl (fun k3 => ?_)
      have k3 : isK 20 240 15 := k3
      show Ok g mX7_sizeOf (rmd 0) (FQ g (pIP (fun z => z = M 15 s ∧ rg z) M)) 19 [(0, rv g 13), (1, iv s)] [rv g 15] M
      refine x_iload_n 1 dX7_sizeOf_19 rfl rfl ?_
      refine x_iald dX7_sizeOf_20 k3 (by omega) (by omega) (by decide) (fun ⟨a4, a4'⟩ => ?_)
      refine x_iret dX7_sizeOf_21 rfl rfl ?_
      exact ⟨_, rfl, rfl, rfl, by constructor <;> omega⟩
    · exfalso; omega

set_option maxHeartbeats 600000 in
set_option maxRecDepth 100000 in
theorem c_X7_usersOf (g : GG) (M : Mem) (s : Int) (s0 : 0 ≤ s ∧ s < 240) : Ct g yX7_usersOf cX7_usersOf 2 (some .int) 0 [rv g 13, iv s] M (pIP (fun z => z = M 16 s ∧ rg z) M) := by
  refine ct_of (by decide +kernel) (Nat.le_of_ble_eq_true rfl) ?_
  show Ok g mX7_usersOf (rmd 0) (FQ g (pIP (fun z => z = M 16 s ∧ rg z) M)) 0 [(0, rv g 13), (1, iv s)] [] M
  refine x_iload_n 1 dX7_usersOf_0 rfl rfl ?_
  refine x_if_lt (tgt := 11) dX7_usersOf_1 (by decide) ⟨by omega, by omega⟩ (fun c1 => ?_) (fun c1 => ?_)
  · exfalso; omega
  · refine x_iload_n 1 dX7_usersOf_4 rfl rfl ?_
    refine x_sipush (240) dX7_usersOf_5 rfl ?_
    refine x_icmp_lt (tgt := 15) dX7_usersOf_8 (by decide) ⟨by omega, by omega⟩ ⟨by decide, by decide⟩ (fun c2 => ?_) (fun c2 => ?_)
    · refine x_aload_n 0 dX7_usersOf_15 rfl rfl ?_
      refine x_getr (k := 2) (d := 3) dX7_usersOf_16 fl7_18 k_13 rfl (fun k3 => ?_)
      have k3 : isK 20 240 16 := k3
      show Ok g mX7_usersOf (rmd 0) (FQ g (pIP (fun z => z = M 16 s ∧ rg z) M)) 19 [(0, rv g 13), (1, iv s)] [rv g 16] M
      refine x_iload_n 1 dX7_usersOf_19 rfl rfl ?_
      refine x_iald dX7_usersOf_20 k3 (by omega) (by omega) (by decide) (fun ⟨a4, a4'⟩ => ?_)
      refine x_iret dX7_usersOf_21 rfl rfl ?_
      exact ⟨_, rfl, rfl, rfl, by constructor <;> omega⟩
    · exfalso; omega

set_option maxHeartbeats 600000 in
set_option maxRecDepth 100000 in
theorem c_X7_isAlike (g : GG) (M : Mem) (s n : Int) (s0 : 0 ≤ s ∧ s < 240) (n0 : 0 ≤ n ∧ n ≤ 6) : Ct g yX7_isAlike cX7_isAlike 5 (some .boolean) 1 [rv g 13, iv s, rv g 12, iv n] M (pIP (fun z => (z = 1 ∧ CT M s n (fun k => M 12 k)) ∨ (z = 0 ∧ ¬ CT M s n (fun k => M 12 k))) M) := by
  refine ct_of (by decide +kernel) (Nat.le_of_ble_eq_true rfl) ?_
  show Ok g mX7_isAlike (rmd 1) (FQ g (pIP (fun z => (z = 1 ∧ CT M s n (fun k => M 12 k)) ∨ (z = 0 ∧ ¬ CT M s n (fun k => M 12 k))) M)) 0 [(0, rv g 13), (1, iv s), (2, rv g 12), (3, iv n)] [] M
  have h_14 : ∀ (n_14 : Nat) (k : Int), (0 ≤ k ∧ k ≤ n ∧ M 15 s = n) → (∀ q, 0 ≤ q → q < k → M 14 (s * 6 + q) = M 12 q) → (n - k).toNat < n_14 → Ok g mX7_isAlike (rmd 1) (FQ g (pIP (fun z => (z = 1 ∧ CT M s n (fun k => M 12 k)) ∨ (z = 0 ∧ ¬ CT M s n (fun k => M 12 k))) M)) 14 [(0, rv g 13), (1, iv s), (2, rv g 12), (3, iv n), (4, iv k)] [] M := by
    intro n_14
    induction n_14 with
    | zero => intro k j0 j1 hn_14; exact absurd hn_14 (Nat.not_lt_zero _)
    | succ n_14 ih_14 =>
      intro k j0 j1 hn_14
      refine x_iload 4 dX7_isAlike_14 rfl ?_
      refine x_iload_n 3 dX7_isAlike_16 rfl rfl ?_
      refine x_icmp_ge (tgt := 42) dX7_isAlike_17 (by decide) ⟨by omega, by omega⟩ ⟨by omega, by omega⟩ (fun c1 => ?_) (fun c1 => ?_)
      · refine x_iconst (1) dX7_isAlike_42 rfl ?_
        refine x_iret dX7_isAlike_43 rfl (iZ_bool (by omega)) ?_
        exact ⟨_, rfl, rfl, Or.inl ⟨rfl, by omega, fun q q0 q1 => j1 q q0 (by omega)⟩⟩
      · refine x_aload_n 0 dX7_isAlike_20 rfl rfl ?_
        refine x_iload_n 1 dX7_isAlike_21 rfl rfl ?_
        refine x_iload 4 dX7_isAlike_22 rfl ?_
        refine x_callVIP (as := [iv s, iv k]) (rest := []) dX7_isAlike_24 vl7_41 k_13 (c_X7_numberAt g M s k (by omega) (by omega)) rfl rfl (Nat.le_of_ble_eq_true rfl) ⟨Nat.le_of_ble_eq_true rfl, Nat.le_of_ble_eq_true rfl⟩ (fun z2 h3 => ?_)
        have h3a := h3.2.1
        have h3b := h3.2.2
        refine x_aload_n 2 dX7_isAlike_27 rfl rfl ?_
        refine x_iload 4 dX7_isAlike_28 rfl ?_
        refine x_iald dX7_isAlike_30 k_12 (by omega) (by omega) (by decide) (fun ⟨a5, a5'⟩ => ?_)
        refine x_icmp_eq (tgt := 36) dX7_isAlike_31 (by decide) ⟨by omega, by omega⟩ ⟨by omega, by omega⟩ (fun c6 => ?_) (fun c6 => ?_)
        · refine x_iinc (z := k) (lv' := [(4, iv (k + 1)), (0, rv g 13), (1, iv s), (2, rv g 12), (3, iv n)]) 4 dX7_isAlike_36 rfl (Nat.le_of_ble_eq_true rfl) rfl ?_
          refine x_goto (tgt := 14) dX7_isAlike_39 (by decide) ?_
          refine x_sub [1, 2, 3, 4, 0] rfl ?_
          exact ih_14 _ (by omega) (by exact ext_lt j1 (by omega)) (by omega)
        · refine x_iconst (0) dX7_isAlike_34 rfl ?_
          refine x_iret dX7_isAlike_35 rfl (iZ_bool (by omega)) ?_
          exact ⟨_, rfl, rfl, Or.inr ⟨rfl, fun e => by have h9 := e.2 k (by omega) (by omega); change M 14 (s * 6 + k) = M 12 k at h9; omega⟩⟩
  refine x_aload_n 0 dX7_isAlike_0 rfl rfl ?_
  refine x_iload_n 1 dX7_isAlike_1 rfl rfl ?_
  refine x_callVIP (as := [iv s]) (rest := []) dX7_isAlike_2 vl7_37 k_13 (c_X7_sizeOf g M s (by omega)) rfl rfl (Nat.le_of_ble_eq_true rfl) ⟨Nat.le_of_ble_eq_true rfl, Nat.le_of_ble_eq_true rfl⟩ (fun z7 h8 => ?_)
  have h8a := h8.2.1
  have h8b := h8.2.2
  have h8c := h8.1
  refine x_iload_n 3 dX7_isAlike_5 rfl rfl ?_
  refine x_icmp_eq (tgt := 11) dX7_isAlike_6 (by decide) ⟨by omega, by omega⟩ ⟨by omega, by omega⟩ (fun c10 => ?_) (fun c10 => ?_)
  · refine x_iconst (0) dX7_isAlike_11 rfl ?_
    refine x_istore (lv' := [(4, iv 0), (0, rv g 13), (1, iv s), (2, rv g 12), (3, iv n)]) dX7_isAlike_12 (Nat.le_of_ble_eq_true rfl) rfl ?_
    refine x_sub [1, 2, 3, 4, 0] rfl ?_
    exact h_14 _ _ (by omega) (by intro q _ _; omega) (Nat.lt_succ_self _)
  · refine x_iconst (0) dX7_isAlike_9 rfl ?_
    refine x_iret dX7_isAlike_10 rfl (iZ_bool (by omega)) ?_
    exact ⟨_, rfl, rfl, Or.inr ⟨rfl, fun e => by have := e.1; omega⟩⟩

set_option maxHeartbeats 600000 in
set_option maxRecDepth 100000 in
theorem c_X7_addTo (g : GG) (M : Mem) (x : Int64) (s : Int) (s0 : 0 ≤ s ∧ s < 240) (n0 : 0 ≤ M 15 s ∧ M 15 s ≤ 6) : Ct g yX7_addTo cX7_addTo 7 (some .long) 1 [rv g 13, .long x, iv s] M (pLP (fun z => z = ckK (fun k => M 14 (s * 6 + k)) x (M 15 s).toNat) M) := by
  refine ct_of (by decide +kernel) (Nat.le_of_ble_eq_true rfl) ?_
  show Ok g mX7_addTo (rmd 1) (FQ g (pLP (fun z => z = ckK (fun k => M 14 (s * 6 + k)) x (M 15 s).toNat) M)) 0 [(0, rv g 13), (1, .long x), (3, iv s)] [] M
  have h_6 : ∀ (n_6 : Nat) (y : Int64) (k : Int), (0 ≤ k ∧ k ≤ M 15 s) → (y = ckK (fun k => M 14 (s * 6 + k)) x k.toNat) → (M 15 s - k).toNat < n_6 → Ok g mX7_addTo (rmd 1) (FQ g (pLP (fun z => z = ckK (fun k => M 14 (s * 6 + k)) x (M 15 s).toNat) M)) 6 [(0, rv g 13), (1, .long x), (3, iv s), (4, .long y), (6, iv k)] [] M := by
    intro n_6
    induction n_6 with
    | zero => intro y k j0 j1 hn_6; exact absurd hn_6 (Nat.not_lt_zero _)
    | succ n_6 ih_6 =>
      intro y k j0 j1 hn_6
      refine x_iload 4 dX7_addTo_6 rfl ?_
      refine x_aload_n 0 dX7_addTo_8 rfl rfl ?_
      refine x_iload_n 2 dX7_addTo_9 rfl rfl ?_
      refine x_callVIP (as := [iv s]) (rest := [iv k]) dX7_addTo_10 vl7_37 k_13 (c_X7_sizeOf g M s (by omega)) rfl rfl (Nat.le_of_ble_eq_true rfl) ⟨Nat.le_of_ble_eq_true rfl, Nat.le_of_ble_eq_true rfl⟩ (fun z1 h2 => ?_)
      have h2a := h2.2.1
      have h2b := h2.2.2
      have h2c := h2.1
      refine x_icmp_ge (tgt := 39) dX7_addTo_13 (by decide) ⟨by omega, by omega⟩ ⟨by omega, by omega⟩ (fun c4 => ?_) (fun c4 => ?_)
      · refine x_lload 3 dX7_addTo_39 rfl ?_
        refine x_lret dX7_addTo_41 rfl ?_
        exact ⟨_, rfl, rfl, by rw [j1, show k = M 15 s by omega]⟩
      · refine x_ldc2 (v := 31) dX7_addTo_16 (inr41 _ (List.mem_of_getElem? (i := 5) rfl)) ?_
        refine x_lload 3 dX7_addTo_19 rfl ?_
        refine x_lmul dX7_addTo_21 ?_
        refine x_aload_n 0 dX7_addTo_22 rfl rfl ?_
        refine x_iload_n 2 dX7_addTo_23 rfl rfl ?_
        refine x_iload 4 dX7_addTo_24 rfl ?_
        refine x_callVIP (as := [iv s, iv k]) (rest := [.long (31 * y)]) dX7_addTo_26 vl7_41 k_13 (c_X7_numberAt g M s k (by omega) (by omega)) rfl rfl (Nat.le_of_ble_eq_true rfl) ⟨Nat.le_of_ble_eq_true rfl, Nat.le_of_ble_eq_true rfl⟩ (fun z5 h6 => ?_)
        have h6a := h6.2.1
        have h6b := h6.2.2
        have hna := h6.1
        refine x_i2l dX7_addTo_29 ⟨by omega, by omega⟩ ?_
        refine x_ladd dX7_addTo_30 ?_
        refine x_lstore (lv' := [(4, .long ((31 * y) + (Int64.ofInt z5))), (0, rv g 13), (1, .long x), (3, iv s), (6, iv k)]) dX7_addTo_31 (Nat.le_of_ble_eq_true rfl) rfl ?_
        refine x_iinc (z := k) (lv' := [(6, iv (k + 1)), (4, .long ((31 * y) + (Int64.ofInt z5))), (0, rv g 13), (1, .long x), (3, iv s)]) 4 dX7_addTo_33 rfl (Nat.le_of_ble_eq_true rfl) rfl ?_
        refine x_goto (tgt := 6) dX7_addTo_36 (by decide) ?_
        refine x_sub [2, 3, 4, 1, 0] rfl ?_
        exact ih_6 _ _ (by omega) (by rw [ckK_s (by omega), ← j1, ← hna]) (by omega)
  refine x_lload_n 1 dX7_addTo_0 rfl rfl ?_
  refine x_lstore (lv' := [(4, .long x), (0, rv g 13), (1, .long x), (3, iv s)]) dX7_addTo_1 (Nat.le_of_ble_eq_true rfl) rfl ?_
  refine x_iconst (0) dX7_addTo_3 rfl ?_
  refine x_istore (lv' := [(6, iv 0), (4, .long x), (0, rv g 13), (1, .long x), (3, iv s)]) dX7_addTo_4 (Nat.le_of_ble_eq_true rfl) rfl ?_
  refine x_sub [2, 3, 4, 1, 0] rfl ?_
  exact h_6 _ _ _ (by omega) (by rfl) (Nat.lt_succ_self _)

set_option maxHeartbeats 600000 in
set_option maxRecDepth 100000 in
theorem c_X7_find (g : GG) (M : Mem) (n : Int) (n0 : 0 ≤ n ∧ n ≤ 6) : Ct g yX7_find cX7_find 4 (some .int) 2 [rv g 13, rv g 12, iv n] M (pIP (fun z => z = lst (fun s => 0 < M 16 s ∧ CT M s n (fun k => M 12 k)) 240) M) := by
  refine ct_of (by decide +kernel) (Nat.le_of_ble_eq_true rfl) ?_
  show Ok g mX7_find (rmd 2) (FQ g (pIP (fun z => z = lst (fun s => 0 < M 16 s ∧ CT M s n (fun k => M 12 k)) 240) M)) 0 [(0, rv g 13), (1, rv g 12), (2, iv n)] [] M
  have h_2 : ∀ (n_2 : Nat) (s : Int), (0 ≤ s ∧ s ≤ 240) → (∀ q, 0 ≤ q → q < s → ¬ (0 < M 16 q ∧ CT M q n (fun k => M 12 k))) → (240 - s).toNat < n_2 → Ok g mX7_find (rmd 2) (FQ g (pIP (fun z => z = lst (fun s => 0 < M 16 s ∧ CT M s n (fun k => M 12 k)) 240) M)) 2 [(0, rv g 13), (1, rv g 12), (2, iv n), (3, iv s)] [] M := by
    intro n_2
    induction n_2 with
    | zero => intro s j0 j1 hn_2; exact absurd hn_2 (Nat.not_lt_zero _)
    | succ n_2 ih_2 =>
      intro s j0 j1 hn_2
      refine x_iload_n 3 dX7_find_2 rfl rfl ?_
      refine x_sipush (240) dX7_find_3 rfl ?_
      refine x_icmp_ge (tgt := 36) dX7_find_6 (by decide) ⟨by omega, by omega⟩ ⟨by decide, by decide⟩ (fun c1 => ?_) (fun c1 => ?_)
      · refine x_iconst (-1) dX7_find_36 rfl ?_
        refine x_iret dX7_find_37 rfl rfl ?_
        exact ⟨_, rfl, rfl, (lst_eq (by omega) (Or.inl ⟨by omega, fun q q0 q1 => j1 q q0 (by omega)⟩)).symm⟩
      · refine x_aload_n 0 dX7_find_9 rfl rfl ?_
        refine x_getr (k := 2) (d := 3) dX7_find_10 fl7_18 k_13 rfl (fun k2 => ?_)
        have k2 : isK 20 240 16 := k2
        show Ok g mX7_find (rmd 2) (FQ g (pIP (fun z => z = lst (fun s => 0 < M 16 s ∧ CT M s n (fun k => M 12 k)) 240) M)) 13 [(0, rv g 13), (1, rv g 12), (2, iv n), (3, iv s)] [rv g 16] M
        refine x_iload_n 3 dX7_find_13 rfl rfl ?_
        refine x_iald dX7_find_14 k2 (by omega) (by omega) (by decide) (fun ⟨a3, a3'⟩ => ?_)
        refine x_if_le (tgt := 30) dX7_find_15 (by decide) ⟨by omega, by omega⟩ (fun c4 => ?_) (fun c4 => ?_)
        · refine x_iinc (z := s) (lv' := [(3, iv (s + 1)), (0, rv g 13), (1, rv g 12), (2, iv n)]) 3 dX7_find_30 rfl (Nat.le_of_ble_eq_true rfl) rfl ?_
          refine x_goto (tgt := 2) dX7_find_33 (by decide) ?_
          refine x_sub [1, 2, 3, 0] rfl ?_
          exact ih_2 _ (by omega) (by exact ext_lt j1 (by (clear ih_2; grind))) (by omega)
        · refine x_aload_n 0 dX7_find_18 rfl rfl ?_
          refine x_iload_n 3 dX7_find_19 rfl rfl ?_
          refine x_aload_n 1 dX7_find_20 rfl rfl ?_
          refine x_iload_n 2 dX7_find_21 rfl rfl ?_
          refine x_callVIP (as := [iv s, rv g 12, iv n]) (rest := []) dX7_find_22 vl7_47 k_13 (c_X7_isAlike g M s n (by omega) n0) rfl rfl (Nat.le_of_ble_eq_true rfl) ⟨Nat.le_of_ble_eq_true rfl, Nat.le_of_ble_eq_true rfl⟩ (fun z5 h6 => ?_)
          refine x_if_eq (tgt := 30) dX7_find_25 (by decide) ⟨by omega, by omega⟩ (fun c8 => ?_) (fun c8 => ?_)
          · refine x_iinc (z := s) (lv' := [(3, iv (s + 1)), (0, rv g 13), (1, rv g 12), (2, iv n)]) 3 dX7_find_30 rfl (Nat.le_of_ble_eq_true rfl) rfl ?_
            refine x_goto (tgt := 2) dX7_find_33 (by decide) ?_
            refine x_sub [1, 2, 3, 0] rfl ?_
            exact ih_2 _ (by omega) (by exact ext_lt j1 (by (clear ih_2; grind))) (by omega)
          · refine x_iload_n 3 dX7_find_28 rfl rfl ?_
            refine x_iret dX7_find_29 rfl rfl ?_
            exact ⟨_, rfl, rfl, (lst_eq (by omega) (Or.inr ⟨by omega, by omega, ⟨by omega, by (clear ih_2; grind)⟩, j1⟩)).symm⟩
  refine x_iconst (0) dX7_find_0 rfl ?_
  refine x_istore_n (lv' := [(3, iv 0), (0, rv g 13), (1, rv g 12), (2, iv n)]) dX7_find_1 rfl (Nat.le_of_ble_eq_true rfl) rfl ?_
  refine x_sub [1, 2, 3, 0] rfl ?_
  exact h_2 _ _ (by omega) (by intro q _ _; omega) (Nat.lt_succ_self _)

set_option maxHeartbeats 600000 in
set_option maxRecDepth 100000 in
theorem c_X7_firstFree (g : GG) (M : Mem)   : Ct g yX7_firstFree cX7_firstFree 2 (some .int) 0 [rv g 13] M (pIP (fun z => 0 ≤ z ∧ z ≤ 239 ∧ (z = 239 ∨ M 16 z ≤ 0) ∧ ∀ q, 0 ≤ q → q < z → 0 < M 16 q) M) := by
  refine ct_of (by decide +kernel) (Nat.le_of_ble_eq_true rfl) ?_
  show Ok g mX7_firstFree (rmd 0) (FQ g (pIP (fun z => 0 ≤ z ∧ z ≤ 239 ∧ (z = 239 ∨ M 16 z ≤ 0) ∧ ∀ q, 0 ≤ q → q < z → 0 < M 16 q) M)) 0 [(0, rv g 13)] [] M
  have h_2 : ∀ (n_2 : Nat) (s : Int), (0 ≤ s ∧ s ≤ 239) → (∀ q, 0 ≤ q → q < s → 0 < M 16 q) → (239 - s).toNat < n_2 → Ok g mX7_firstFree (rmd 0) (FQ g (pIP (fun z => 0 ≤ z ∧ z ≤ 239 ∧ (z = 239 ∨ M 16 z ≤ 0) ∧ ∀ q, 0 ≤ q → q < z → 0 < M 16 q) M)) 2 [(0, rv g 13), (1, iv s)] [] M := by
    intro n_2
    induction n_2 with
    | zero => intro s j0 j1 hn_2; exact absurd hn_2 (Nat.not_lt_zero _)
    | succ n_2 ih_2 =>
      intro s j0 j1 hn_2
      refine x_iload_n 1 dX7_firstFree_2 rfl rfl ?_
      refine x_sipush (239) dX7_firstFree_3 rfl ?_
      refine x_icmp_ge (tgt := 24) dX7_firstFree_6 (by decide) ⟨by omega, by omega⟩ ⟨by decide, by decide⟩ (fun c1 => ?_) (fun c1 => ?_)
      · refine x_iload_n 1 dX7_firstFree_24 rfl rfl ?_
        refine x_iret dX7_firstFree_25 rfl rfl ?_
        exact ⟨_, rfl, rfl, by omega, by omega, by omega, j1⟩
      · refine x_aload_n 0 dX7_firstFree_9 rfl rfl ?_
        refine x_getr (k := 2) (d := 3) dX7_firstFree_10 fl7_18 k_13 rfl (fun k2 => ?_)
        have k2 : isK 20 240 16 := k2
        show Ok g mX7_firstFree (rmd 0) (FQ g (pIP (fun z => 0 ≤ z ∧ z ≤ 239 ∧ (z = 239 ∨ M 16 z ≤ 0) ∧ ∀ q, 0 ≤ q → q < z → 0 < M 16 q) M)) 13 [(0, rv g 13), (1, iv s)] [rv g 16] M
        refine x_iload_n 1 dX7_firstFree_13 rfl rfl ?_
        refine x_iald dX7_firstFree_14 k2 (by omega) (by omega) (by decide) (fun ⟨a3, a3'⟩ => ?_)
        refine x_if_le (tgt := 24) dX7_firstFree_15 (by decide) ⟨by omega, by omega⟩ (fun c4 => ?_) (fun c4 => ?_)
        · refine x_iload_n 1 dX7_firstFree_24 rfl rfl ?_
          refine x_iret dX7_firstFree_25 rfl rfl ?_
          exact ⟨_, rfl, rfl, by omega, by omega, by omega, j1⟩
        · refine x_iinc (z := s) (lv' := [(1, iv (s + 1)), (0, rv g 13)]) 1 dX7_firstFree_18 rfl (Nat.le_of_ble_eq_true rfl) rfl ?_
          refine x_goto (tgt := 2) dX7_firstFree_21 (by decide) ?_
          refine x_sub [1, 0] rfl ?_
          exact ih_2 _ (by omega) (by exact ext_lt j1 (by omega)) (by omega)
  refine x_iconst (0) dX7_firstFree_0 rfl ?_
  refine x_istore_n (lv' := [(1, iv 0), (0, rv g 13)]) dX7_firstFree_1 rfl (Nat.le_of_ble_eq_true rfl) rfl ?_
  refine x_sub [1, 0] rfl ?_
  exact h_2 _ _ (by omega) (by intro q _ _; omega) (Nat.lt_succ_self _)

set_option maxHeartbeats 600000 in
set_option maxRecDepth 100000 in
theorem c_X7_fill (g : GG) (M : Mem) (s n : Int) (s0 : 0 ≤ s ∧ s < 240) (n0 : 0 ≤ n ∧ n ≤ 6) : Ct g yX7_fill cX7_fill 5 none 0 [rv g 13, iv s, rv g 12, iv n] M (pV (fun M' => (∀ o k, ¬ (o = 14 ∧ s * 6 ≤ k ∧ k < s * 6 + 6) → ¬ (o = 15 ∧ k = s) → M' o k = M o k) ∧ CT M' s n (fun k => M 12 k))) := by
  refine ct_of (by decide +kernel) (Nat.le_of_ble_eq_true rfl) ?_
  show Ok g mX7_fill (rmd 0) (FQ g (pV (fun M' => (∀ o k, ¬ (o = 14 ∧ s * 6 ≤ k ∧ k < s * 6 + 6) → ¬ (o = 15 ∧ k = s) → M' o k = M o k) ∧ CT M' s n (fun k => M 12 k)))) 0 [(0, rv g 13), (1, iv s), (2, rv g 12), (3, iv n)] [] M
  have h_3 : ∀ (n_3 : Nat) (M1 : Mem) (k : Int), (0 ≤ k ∧ k ≤ n) → (∀ o q, ¬ (o = 14 ∧ s * 6 ≤ q ∧ q < s * 6 + 6) → M1 o q = M o q) → (∀ q, 0 ≤ q → q < k → M1 14 (s * 6 + q) = M 12 q) → (n - k).toNat < n_3 → Ok g mX7_fill (rmd 0) (FQ g (pV (fun M' => (∀ o k, ¬ (o = 14 ∧ s * 6 ≤ k ∧ k < s * 6 + 6) → ¬ (o = 15 ∧ k = s) → M' o k = M o k) ∧ CT M' s n (fun k => M 12 k)))) 3 [(0, rv g 13), (1, iv s), (2, rv g 12), (3, iv n), (4, iv k)] [] M1 := by
    intro n_3
    induction n_3 with
    | zero => intro M1 k j0 j1 j2 hn_3; exact absurd hn_3 (Nat.not_lt_zero _)
    | succ n_3 ih_3 =>
      intro M1 k j0 j1 j2 hn_3
      refine x_iload 4 dX7_fill_3 rfl ?_
      refine x_iload_n 3 dX7_fill_5 rfl rfl ?_
      refine x_icmp_ge (tgt := 31) dX7_fill_6 (by decide) ⟨by omega, by omega⟩ ⟨by omega, by omega⟩ (fun c1 => ?_) (fun c1 => ?_)
      · refine x_aload_n 0 dX7_fill_31 rfl rfl ?_
        refine x_getr (k := 1) (d := 2) dX7_fill_32 fl7_15 k_13 rfl (fun k2 => ?_)
        have k2 : isK 20 240 15 := k2
        show Ok g mX7_fill (rmd 0) (FQ g (pV (fun M' => (∀ o k, ¬ (o = 14 ∧ s * 6 ≤ k ∧ k < s * 6 + 6) → ¬ (o = 15 ∧ k = s) → M' o k = M o k) ∧ CT M' s n (fun k => M 12 k)))) 35 [(0, rv g 13), (1, iv s), (2, rv g 12), (3, iv n), (4, iv k)] [rv g 15] M1
        refine x_iload_n 1 dX7_fill_35 rfl rfl ?_
        refine x_iload_n 3 dX7_fill_36 rfl rfl ?_
        refine x_iast dX7_fill_37 k2 (by omega) (by omega) (by decide) ⟨by omega, by omega⟩ ?_
        refine x_vret dX7_fill_38 rfl ?_
        refine ⟨rfl, fun o q h1 h2 => ?_, up_s _ _ _ _, fun q q0 q1 => ?_⟩
        · rw [up_n h2]; exact j1 o q h1
        · rw [up_o (by omega)]; exact j2 q q0 (by omega)
      · refine x_aload_n 0 dX7_fill_9 rfl rfl ?_
        refine x_getr (k := 0) (d := 1) dX7_fill_10 fl7_9 k_13 rfl (fun k3 => ?_)
        have k3 : isK 20 1440 14 := k3
        show Ok g mX7_fill (rmd 0) (FQ g (pV (fun M' => (∀ o k, ¬ (o = 14 ∧ s * 6 ≤ k ∧ k < s * 6 + 6) → ¬ (o = 15 ∧ k = s) → M' o k = M o k) ∧ CT M' s n (fun k => M 12 k)))) 13 [(0, rv g 13), (1, iv s), (2, rv g 12), (3, iv n), (4, iv k)] [rv g 14] M1
        refine x_iload_n 1 dX7_fill_13 rfl rfl ?_
        refine x_bipush (6) dX7_fill_14 rfl ?_
        refine x_imul dX7_fill_16 ?_
        refine x_iload 4 dX7_fill_17 rfl ?_
        refine x_iadd dX7_fill_19 ?_
        refine x_aload_n 2 dX7_fill_20 rfl rfl ?_
        refine x_iload 4 dX7_fill_21 rfl ?_
        refine x_iald dX7_fill_23 k_12 (by omega) (by omega) (by decide) (fun ⟨a4, a4'⟩ => ?_)
        have e5 : M1 12 k = M 12 k := (j1 _ _ (by omega))
        simp only [e5] at a4 a4' ⊢
        refine x_iast dX7_fill_24 k3 (by omega) (by omega) (by decide) ⟨by omega, by omega⟩ ?_
        refine x_iinc (z := k) (lv' := [(4, iv (k + 1)), (0, rv g 13), (1, iv s), (2, rv g 12), (3, iv n)]) 4 dX7_fill_25 rfl (Nat.le_of_ble_eq_true rfl) rfl ?_
        refine x_goto (tgt := 3) dX7_fill_28 (by decide) ?_
        refine x_sub [1, 2, 3, 4, 0] rfl ?_
        exact ih_3 _ _ (by omega) (by intro o q h; rw [up_n (by omega)]; exact j1 o q h) (by refine ext_lt (fun q q0 q1 => ?_) ?_; rw [up_k (by omega)]; exact j2 q q0 q1; rw [up_s]) (by omega)
  refine x_iconst (0) dX7_fill_0 rfl ?_
  refine x_istore (lv' := [(4, iv 0), (0, rv g 13), (1, iv s), (2, rv g 12), (3, iv n)]) dX7_fill_1 (Nat.le_of_ble_eq_true rfl) rfl ?_
  refine x_sub [1, 2, 3, 4, 0] rfl ?_
  exact h_3 _ _ _ (by omega) (by intro o q _; rfl) (by intro q _ _; omega) (Nat.lt_succ_self _)
