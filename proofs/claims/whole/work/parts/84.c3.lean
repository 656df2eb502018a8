set_option maxHeartbeats 600000 in
set_option maxRecDepth 100000 in
theorem c_X8_tests (g : GG) (M : Mem) (p : Int) (C : CR M) (hp : rg p) (hst : g.1.stackTraces = false) : Ctx g yX8_tests cX8_tests 2 (some .int) 2 [rv g 0, iv p] M (pIP (fun z => 0 ≤ p ∧ p < M 0 10 ∧ z = M (20 * p + 48) 3) M) (fun E M' => (E = "java/lang/IndexOutOfBoundsException" ∧ (p < 0 ∨ M 0 10 ≤ p) ∧ M' = M)) := by
  refine ctx_of (by decide +kernel) (Nat.le_of_ble_eq_true rfl) ?_
  show Ok g mX8_tests (rmX 2) (FX g (pIP (fun z => 0 ≤ p ∧ p < M 0 10 ∧ z = M (20 * p + 48) 3) M) (fun E M' => (E = "java/lang/IndexOutOfBoundsException" ∧ (p < 0 ∨ M 0 10 ≤ p) ∧ M' = M))) 0 [(0, rv g 0), (1, iv p)] [] M
  have c0 := C.1
  have hp1 := hp.1
  have hp2 := hp.2
  refine x_aload_n 0 dX8_tests_0 rfl rfl ?_
  refine x_iload_n 1 dX8_tests_1 rfl rfl ?_
  refine x_callVIP (as := [iv p]) (rest := []) dX8_tests_2 vl8_130 k_0 (c_X8_hasProblem g M p (by omega) ⟨by omega, by omega⟩) rfl rfl (Nat.le_of_ble_eq_true rfl) ⟨Nat.le_of_ble_eq_true rfl, Nat.le_of_ble_eq_true rfl⟩ (fun z1 h2 => ?_)
  refine x_if_ne (tgt := 16) dX8_tests_5 (by decide) ⟨by omega, by omega⟩ (fun c4 => ?_) (fun c4 => ?_)
  · have i2 := C.prob p (by omega) (by omega)
    refine x_aload_n 0 dX8_tests_16 rfl rfl ?_
    refine x_getr (k := 2) (d := 8) dX8_tests_17 fl8_25 k_0 rfl (fun k5 => ?_)
    have k5 : isK 30 5 8 := k5
    show Ok g mX8_tests (rmX 2) (FX g (pIP (fun z => 0 ≤ p ∧ p < M 0 10 ∧ z = M (20 * p + 48) 3) M) (fun E M' => (E = "java/lang/IndexOutOfBoundsException" ∧ (p < 0 ∨ M 0 10 ≤ p) ∧ M' = M))) 20 [(0, rv g 0), (1, iv p)] [rv g 8] M
    refine x_iload_n 1 dX8_tests_20 rfl rfl ?_
    refine x_aald30 dX8_tests_21 k5 (by omega) (by omega) (by decide) (fun k6 => ?_)
    have ek6 : 8 + (40 + 20 * p) = 20 * p + 48 := by omega
    rw [ek6] at k6 ⊢
    refine x_geti (k := 3) (kI := 3) dX8_tests_22 fl8_136 k6 rfl rfl (fun ⟨a7, a7'⟩ => ?_)
    refine x_toX ?_
    refine x_iret dX8_tests_25 rfl rfl ?_
    exact ⟨_, rfl, rfl, by omega⟩
  · exact x_throw hst ex_133 dX8_tests_8 dX8_tests_11 dX8_tests_12 dX8_tests_15 (Nat.le_of_ble_eq_true rfl) (Nat.le_of_ble_eq_true rfl) (Nat.le_of_ble_eq_true rfl) (Nat.le_of_ble_eq_true rfl) (⟨rfl, by omega, rfl⟩)

set_option maxHeartbeats 600000 in
set_option maxRecDepth 100000 in
theorem c_X8_verdict (g : GG) (M : Mem) (r : Int) (C : CR M) (hr : rg r) (hst : g.1.stackTraces = false) : Ctx g yX8_verdict cX8_verdict 2 (some .char) 2 [rv g 0, iv r] M (pIP (fun z => 0 ≤ r ∧ r < M 0 12 ∧ z = M (8 * r + 148) 8) M) (fun E M' => (E = "java/lang/IndexOutOfBoundsException" ∧ (r < 0 ∨ M 0 12 ≤ r) ∧ M' = M)) := by
  refine ctx_of (by decide +kernel) (Nat.le_of_ble_eq_true rfl) ?_
  show Ok g mX8_verdict (rmX 2) (FX g (pIP (fun z => 0 ≤ r ∧ r < M 0 12 ∧ z = M (8 * r + 148) 8) M) (fun E M' => (E = "java/lang/IndexOutOfBoundsException" ∧ (r < 0 ∨ M 0 12 ≤ r) ∧ M' = M))) 0 [(0, rv g 0), (1, iv r)] [] M
  have c0 := C.1
  have hr1 := hr.1
  have hr2 := hr.2
  refine x_aload_n 0 dX8_verdict_0 rfl rfl ?_
  refine x_iload_n 1 dX8_verdict_1 rfl rfl ?_
  refine x_callVIP (as := [iv r]) (rest := []) dX8_verdict_2 vl8_190 k_0 (c_X8_hasRun g M r (by omega) ⟨by omega, by omega⟩) rfl rfl (Nat.le_of_ble_eq_true rfl) ⟨Nat.le_of_ble_eq_true rfl, Nat.le_of_ble_eq_true rfl⟩ (fun z1 h2 => ?_)
  refine x_if_ne (tgt := 16) dX8_verdict_5 (by decide) ⟨by omega, by omega⟩ (fun c4 => ?_) (fun c4 => ?_)
  · have i2 := C.run r (by omega) (by omega)
    refine x_aload_n 0 dX8_verdict_16 rfl rfl ?_
    refine x_getr (k := 3) (d := 9) dX8_verdict_17 fl8_31 k_0 rfl (fun k5 => ?_)
    have k5 : isK 31 40 9 := k5
    show Ok g mX8_verdict (rmX 2) (FX g (pIP (fun z => 0 ≤ r ∧ r < M 0 12 ∧ z = M (8 * r + 148) 8) M) (fun E M' => (E = "java/lang/IndexOutOfBoundsException" ∧ (r < 0 ∨ M 0 12 ≤ r) ∧ M' = M))) 20 [(0, rv g 0), (1, iv r)] [rv g 9] M
    refine x_iload_n 1 dX8_verdict_20 rfl rfl ?_
    refine x_aald31 dX8_verdict_21 k5 (by omega) (by omega) (by decide) (fun k6 => ?_)
    have ek6 : 9 + (139 + 8 * r) = 8 * r + 148 := by omega
    rw [ek6] at k6 ⊢
    refine x_geti (k := 8) (kI := 8) dX8_verdict_22 fl8_193 k6 rfl rfl (fun ⟨a7, a7'⟩ => ?_)
    refine x_toX ?_
    refine x_iret dX8_verdict_25 rfl (iZ_char (by omega) (by omega)) ?_
    exact ⟨_, rfl, rfl, by omega⟩
  · exact x_throw hst ex_133 dX8_verdict_8 dX8_verdict_11 dX8_verdict_12 dX8_verdict_15 (Nat.le_of_ble_eq_true rfl) (Nat.le_of_ble_eq_true rfl) (Nat.le_of_ble_eq_true rfl) (Nat.le_of_ble_eq_true rfl) (⟨rfl, by omega, rfl⟩)

set_option maxHeartbeats 600000 in
set_option maxRecDepth 100000 in
theorem c_X8_failed (g : GG) (M : Mem) (r : Int) (C : CR M) (hr : rg r) (hst : g.1.stackTraces = false) : Ctx g yX8_failed cX8_failed 2 (some .int) 2 [rv g 0, iv r] M (pIP (fun z => 0 ≤ r ∧ r < M 0 12 ∧ z = M (8 * r + 148) 9) M) (fun E M' => (E = "java/lang/IndexOutOfBoundsException" ∧ (r < 0 ∨ M 0 12 ≤ r) ∧ M' = M)) := by
  refine ctx_of (by decide +kernel) (Nat.le_of_ble_eq_true rfl) ?_
  show Ok g mX8_failed (rmX 2) (FX g (pIP (fun z => 0 ≤ r ∧ r < M 0 12 ∧ z = M (8 * r + 148) 9) M) (fun E M' => (E = "java/lang/IndexOutOfBoundsException" ∧ (r < 0 ∨ M 0 12 ≤ r) ∧ M' = M))) 0 [(0, rv g 0), (1, iv r)] [] M
  have c0 := C.1
  have hr1 := hr.1
  have hr2 := hr.2
  refine x_aload_n 0 dX8_failed_0 rfl rfl ?_
  refine x_iload_n 1 dX8_failed_1 rfl rfl ?_
  refine x_callVIP (as := [iv r]) (rest := []) dX8_failed_2 vl8_190 k_0 (c_X8_hasRun g M r (by omega) ⟨by omega, by omega⟩) rfl rfl (Nat.le_of_ble_eq_true rfl) ⟨Nat.le_of_ble_eq_true rfl, Nat.le_of_ble_eq_true rfl⟩ (fun z1 h2 => ?_)
  refine x_if_ne (tgt := 16) dX8_failed_5 (by decide) ⟨by omega, by omega⟩ (fun c4 => ?_) (fun c4 => ?_)
  · have i2 := C.run r (by omega) (by omega)
    refine x_aload_n 0 dX8_failed_16 rfl rfl ?_
    refine x_getr (k := 3) (d := 9) dX8_failed_17 fl8_31 k_0 rfl (fun k5 => ?_)
    have k5 : isK 31 40 9 := k5
    show Ok g mX8_failed (rmX 2) (FX g (pIP (fun z => 0 ≤ r ∧ r < M 0 12 ∧ z = M (8 * r + 148) 9) M) (fun E M' => (E = "java/lang/IndexOutOfBoundsException" ∧ (r < 0 ∨ M 0 12 ≤ r) ∧ M' = M))) 20 [(0, rv g 0), (1, iv r)] [rv g 9] M
    refine x_iload_n 1 dX8_failed_20 rfl rfl ?_
    refine x_aald31 dX8_failed_21 k5 (by omega) (by omega) (by decide) (fun k6 => ?_)
    have ek6 : 9 + (139 + 8 * r) = 8 * r + 148 := by omega
    rw [ek6] at k6 ⊢
    refine x_geti (k := 9) (kI := 9) dX8_failed_22 fl8_197 k6 rfl rfl (fun ⟨a7, a7'⟩ => ?_)
    refine x_toX ?_
    refine x_iret dX8_failed_25 rfl rfl ?_
    exact ⟨_, rfl, rfl, by omega⟩
  · exact x_throw hst ex_133 dX8_failed_8 dX8_failed_11 dX8_failed_12 dX8_failed_15 (Nat.le_of_ble_eq_true rfl) (Nat.le_of_ble_eq_true rfl) (Nat.le_of_ble_eq_true rfl) (Nat.le_of_ble_eq_true rfl) (⟨rfl, by omega, rfl⟩)
