set_option maxHeartbeats 600000 in
set_option maxRecDepth 100000 in
theorem c_X8_ended (g : GG) (M : Mem) (r t : Int) (C : CR M) (hr : rg r) (ht : rg t) (hD : DKs M) (hst : g.1.stackTraces = false) : Ctx g yX8_ended cX8_ended 3 (some .char) 3 [rv g 0, iv r, iv t] M (pIP (fun z => (0 ≤ r ∧ r < M 0 12 ∧ 0 ≤ t ∧ t < M (20 * M (8 * r + 148) 5 + 48) 3) ∧ z = M (8 * r + 153) t) M) (fun E M' => (E = "java/lang/IndexOutOfBoundsException" ∧ ((r < 0 ∨ M 0 12 ≤ r ∨ (0 ≤ r ∧ r < M 0 12 ∧ (t < 0 ∨ M (20 * M (8 * r + 148) 5 + 48) 3 ≤ t)))) ∧ M' = M)) := by
  refine ctx_of (by decide +kernel) (Nat.le_of_ble_eq_true rfl) ?_
  show Ok g mX8_ended (rmX 3) (FX g (pIP (fun z => (0 ≤ r ∧ r < M 0 12 ∧ 0 ≤ t ∧ t < M (20 * M (8 * r + 148) 5 + 48) 3) ∧ z = M (8 * r + 153) t) M) (fun E M' => (E = "java/lang/IndexOutOfBoundsException" ∧ ((r < 0 ∨ M 0 12 ≤ r ∨ (0 ≤ r ∧ r < M 0 12 ∧ (t < 0 ∨ M (20 * M (8 * r + 148) 5 + 48) 3 ≤ t)))) ∧ M' = M))) 0 [(0, rv g 0), (1, iv r), (2, iv t)] [] M
  have c0 := C.1
  have hr1 := hr.1
  have hr2 := hr.2
  have ht1 := ht.1
  have ht2 := ht.2
  refine x_aload_n 0 dX8_ended_0 rfl rfl ?_
  refine x_iload_n 1 dX8_ended_1 rfl rfl ?_
  refine x_iload_n 2 dX8_ended_2 rfl rfl ?_
  refine x_callVIP (as := [iv r, iv t]) (rest := []) dX8_ended_3 vl8_200 k_0 (c_X8_hasTestOfRun g M r t C ⟨by omega, by omega⟩ ⟨by omega, by omega⟩) rfl rfl (Nat.le_of_ble_eq_true rfl) ⟨Nat.le_of_ble_eq_true rfl, Nat.le_of_ble_eq_true rfl⟩ (fun z1 h2 => ?_)
  refine x_if_ne (tgt := 17) dX8_ended_6 (by decide) ⟨by omega, by omega⟩ (fun c4 => ?_) (fun c4 => ?_)
  · have i1 := C.run r (by omega) (by omega)
    have i2 := C.prob (M (8 * r + 148) 5) (by omega) (by omega)
    have i4 := (hD r t (by omega) (by omega) (by omega) (by omega)).2.2.2.1
    refine x_aload_n 0 dX8_ended_17 rfl rfl ?_
    refine x_getr (k := 3) (d := 9) dX8_ended_18 fl8_31 k_0 rfl (fun k5 => ?_)
    have k5 : isK 31 40 9 := k5
    show Ok g mX8_ended (rmX 3) (FX g (pIP (fun z => (0 ≤ r ∧ r < M 0 12 ∧ 0 ≤ t ∧ t < M (20 * M (8 * r + 148) 5 + 48) 3) ∧ z = M (8 * r + 153) t) M) (fun E M' => (E = "java/lang/IndexOutOfBoundsException" ∧ ((r < 0 ∨ M 0 12 ≤ r ∨ (0 ≤ r ∧ r < M 0 12 ∧ (t < 0 ∨ M (20 * M (8 * r + 148) 5 + 48) 3 ≤ t)))) ∧ M' = M))) 21 [(0, rv g 0), (1, iv r), (2, iv t)] [rv g 9] M
    refine x_iload_n 1 dX8_ended_21 rfl rfl ?_
    refine x_aald31 dX8_ended_22 k5 (by omega) (by omega) (by decide) (fun k6 => ?_)
    have ek6 : 9 + (139 + 8 * r) = 8 * r + 148 := by omega
    rw [ek6] at k6 ⊢
    refine x_getr (k := 1) (d := 5) dX8_ended_23 fl8_204 k6 rfl (fun k7 => ?_)
    have ek7 : (8 * r + 148 + 5 : Int) = 8 * r + 153 := by omega
    rw [ek7] at k7 ⊢
    refine x_iload_n 2 dX8_ended_26 rfl rfl ?_
    refine x_cald dX8_ended_27 k7 (by omega) (by omega) (by decide) (fun ⟨a8, a8'⟩ => ?_)
    refine x_toX ?_
    refine x_iret dX8_ended_28 rfl (iZ_char (by omega) (by omega)) ?_
    exact ⟨_, rfl, rfl, by omega⟩
  · exact x_throw hst ex_133 dX8_ended_9 dX8_ended_12 dX8_ended_13 dX8_ended_16 (Nat.le_of_ble_eq_true rfl) (Nat.le_of_ble_eq_true rfl) (Nat.le_of_ble_eq_true rfl) (Nat.le_of_ble_eq_true rfl) (⟨rfl, by omega, rfl⟩)

set_option maxHeartbeats 600000 in
set_option maxRecDepth 100000 in
theorem c_X8_steps (g : GG) (M : Mem) (r t : Int) (C : CR M) (hr : rg r) (ht : rg t) (hst : g.1.stackTraces = false) : Ctx g yX8_steps cX8_steps 3 (some .int) 3 [rv g 0, iv r, iv t] M (pIP (fun z => (0 ≤ r ∧ r < M 0 12 ∧ 0 ≤ t ∧ t < M (20 * M (8 * r + 148) 5 + 48) 3) ∧ z = M (8 * r + 154) t) M) (fun E M' => (E = "java/lang/IndexOutOfBoundsException" ∧ ((r < 0 ∨ M 0 12 ≤ r ∨ (0 ≤ r ∧ r < M 0 12 ∧ (t < 0 ∨ M (20 * M (8 * r + 148) 5 + 48) 3 ≤ t)))) ∧ M' = M)) := by
  refine ctx_of (by decide +kernel) (Nat.le_of_ble_eq_true rfl) ?_
  show Ok g mX8_steps (rmX 3) (FX g (pIP (fun z => (0 ≤ r ∧ r < M 0 12 ∧ 0 ≤ t ∧ t < M (20 * M (8 * r + 148) 5 + 48) 3) ∧ z = M (8 * r + 154) t) M) (fun E M' => (E = "java/lang/IndexOutOfBoundsException" ∧ ((r < 0 ∨ M 0 12 ≤ r ∨ (0 ≤ r ∧ r < M 0 12 ∧ (t < 0 ∨ M (20 * M (8 * r + 148) 5 + 48) 3 ≤ t)))) ∧ M' = M))) 0 [(0, rv g 0), (1, iv r), (2, iv t)] [] M
  have c0 := C.1
  have hr1 := hr.1
  have hr2 := hr.2
  have ht1 := ht.1
  have ht2 := ht.2
  refine x_aload_n 0 dX8_steps_0 rfl rfl ?_
  refine x_iload_n 1 dX8_steps_1 rfl rfl ?_
  refine x_iload_n 2 dX8_steps_2 rfl rfl ?_
  refine x_callVIP (as := [iv r, iv t]) (rest := []) dX8_steps_3 vl8_200 k_0 (c_X8_hasTestOfRun g M r t C ⟨by omega, by omega⟩ ⟨by omega, by omega⟩) rfl rfl (Nat.le_of_ble_eq_true rfl) ⟨Nat.le_of_ble_eq_true rfl, Nat.le_of_ble_eq_true rfl⟩ (fun z1 h2 => ?_)
  refine x_if_ne (tgt := 17) dX8_steps_6 (by decide) ⟨by omega, by omega⟩ (fun c4 => ?_) (fun c4 => ?_)
  · have i1 := C.run r (by omega) (by omega)
    have i2 := C.prob (M (8 * r + 148) 5) (by omega) (by omega)
    refine x_aload_n 0 dX8_steps_17 rfl rfl ?_
    refine x_getr (k := 3) (d := 9) dX8_steps_18 fl8_31 k_0 rfl (fun k5 => ?_)
    have k5 : isK 31 40 9 := k5
    show Ok g mX8_steps (rmX 3) (FX g (pIP (fun z => (0 ≤ r ∧ r < M 0 12 ∧ 0 ≤ t ∧ t < M (20 * M (8 * r + 148) 5 + 48) 3) ∧ z = M (8 * r + 154) t) M) (fun E M' => (E = "java/lang/IndexOutOfBoundsException" ∧ ((r < 0 ∨ M 0 12 ≤ r ∨ (0 ≤ r ∧ r < M 0 12 ∧ (t < 0 ∨ M (20 * M (8 * r + 148) 5 + 48) 3 ≤ t)))) ∧ M' = M))) 21 [(0, rv g 0), (1, iv r), (2, iv t)] [rv g 9] M
    refine x_iload_n 1 dX8_steps_21 rfl rfl ?_
    refine x_aald31 dX8_steps_22 k5 (by omega) (by omega) (by decide) (fun k6 => ?_)
    have ek6 : 9 + (139 + 8 * r) = 8 * r + 148 := by omega
    rw [ek6] at k6 ⊢
    refine x_getr (k := 2) (d := 6) dX8_steps_23 fl8_208 k6 rfl (fun k7 => ?_)
    have ek7 : (8 * r + 148 + 6 : Int) = 8 * r + 154 := by omega
    rw [ek7] at k7 ⊢
    refine x_iload_n 2 dX8_steps_26 rfl rfl ?_
    refine x_iald dX8_steps_27 k7 (by omega) (by omega) (by decide) (fun ⟨a8, a8'⟩ => ?_)
    refine x_toX ?_
    refine x_iret dX8_steps_28 rfl rfl ?_
    exact ⟨_, rfl, rfl, by omega⟩
  · exact x_throw hst ex_133 dX8_steps_9 dX8_steps_12 dX8_steps_13 dX8_steps_16 (Nat.le_of_ble_eq_true rfl) (Nat.le_of_ble_eq_true rfl) (Nat.le_of_ble_eq_true rfl) (Nat.le_of_ble_eq_true rfl) (⟨rfl, by omega, rfl⟩)

set_option maxHeartbeats 600000 in
set_option maxRecDepth 100000 in
theorem c_X8_outputs (g : GG) (M : Mem) (r t : Int) (C : CR M) (hr : rg r) (ht : rg t) (hD : DKs M) (hst : g.1.stackTraces = false) : Ctx g yX8_outputs cX8_outputs 3 (some .int) 3 [rv g 0, iv r, iv t] M (pIP (fun z => (0 ≤ r ∧ r < M 0 12 ∧ 0 ≤ t ∧ t < M (20 * M (8 * r + 148) 5 + 48) 3) ∧ z = M 15 (M (8 * r + 155) t)) M) (fun E M' => (E = "java/lang/IndexOutOfBoundsException" ∧ ((r < 0 ∨ M 0 12 ≤ r ∨ (0 ≤ r ∧ r < M 0 12 ∧ (t < 0 ∨ M (20 * M (8 * r + 148) 5 + 48) 3 ≤ t)))) ∧ M' = M)) := by
  refine ctx_of (by decide +kernel) (Nat.le_of_ble_eq_true rfl) ?_
  show Ok g mX8_outputs (rmX 3) (FX g (pIP (fun z => (0 ≤ r ∧ r < M 0 12 ∧ 0 ≤ t ∧ t < M (20 * M (8 * r + 148) 5 + 48) 3) ∧ z = M 15 (M (8 * r + 155) t)) M) (fun E M' => (E = "java/lang/IndexOutOfBoundsException" ∧ ((r < 0 ∨ M 0 12 ≤ r ∨ (0 ≤ r ∧ r < M 0 12 ∧ (t < 0 ∨ M (20 * M (8 * r + 148) 5 + 48) 3 ≤ t)))) ∧ M' = M))) 0 [(0, rv g 0), (1, iv r), (2, iv t)] [] M
  have c0 := C.1
  have hr1 := hr.1
  have hr2 := hr.2
  have ht1 := ht.1
  have ht2 := ht.2
  refine x_aload_n 0 dX8_outputs_0 rfl rfl ?_
  refine x_iload_n 1 dX8_outputs_1 rfl rfl ?_
  refine x_iload_n 2 dX8_outputs_2 rfl rfl ?_
  refine x_callVIP (as := [iv r, iv t]) (rest := []) dX8_outputs_3 vl8_200 k_0 (c_X8_hasTestOfRun g M r t C ⟨by omega, by omega⟩ ⟨by omega, by omega⟩) rfl rfl (Nat.le_of_ble_eq_true rfl) ⟨Nat.le_of_ble_eq_true rfl, Nat.le_of_ble_eq_true rfl⟩ (fun z1 h2 => ?_)
  refine x_if_ne (tgt := 17) dX8_outputs_6 (by decide) ⟨by omega, by omega⟩ (fun c4 => ?_) (fun c4 => ?_)
  · have i1 := C.run r (by omega) (by omega)
    have i2 := C.prob (M (8 * r + 148) 5) (by omega) (by omega)
    obtain ⟨-, -, -, -, -, d6, d7, d8, d9, d10⟩ := hD r t (by omega) (by omega) (by omega) (by omega)
    have d11 := d8.1
    refine x_aload_n 0 dX8_outputs_17 rfl rfl ?_
    refine x_getr (k := 5) (d := 13) dX8_outputs_18 fl8_45 k_0 rfl (fun k5 => ?_)
    have k5 : isK 7 4 13 := k5
    show Ok g mX8_outputs (rmX 3) (FX g (pIP (fun z => (0 ≤ r ∧ r < M 0 12 ∧ 0 ≤ t ∧ t < M (20 * M (8 * r + 148) 5 + 48) 3) ∧ z = M 15 (M (8 * r + 155) t)) M) (fun E M' => (E = "java/lang/IndexOutOfBoundsException" ∧ ((r < 0 ∨ M 0 12 ≤ r ∨ (0 ≤ r ∧ r < M 0 12 ∧ (t < 0 ∨ M (20 * M (8 * r + 148) 5 + 48) 3 ≤ t)))) ∧ M' = M))) 21 [(0, rv g 0), (1, iv r), (2, iv t)] [rv g 13] M
    refine x_aload_n 0 dX8_outputs_21 rfl rfl ?_
    refine x_getr (k := 3) (d := 9) dX8_outputs_22 fl8_31 k_0 rfl (fun k6 => ?_)
    have k6 : isK 31 40 9 := k6
    show Ok g mX8_outputs (rmX 3) (FX g (pIP (fun z => (0 ≤ r ∧ r < M 0 12 ∧ 0 ≤ t ∧ t < M (20 * M (8 * r + 148) 5 + 48) 3) ∧ z = M 15 (M (8 * r + 155) t)) M) (fun E M' => (E = "java/lang/IndexOutOfBoundsException" ∧ ((r < 0 ∨ M 0 12 ≤ r ∨ (0 ≤ r ∧ r < M 0 12 ∧ (t < 0 ∨ M (20 * M (8 * r + 148) 5 + 48) 3 ≤ t)))) ∧ M' = M))) 25 [(0, rv g 0), (1, iv r), (2, iv t)] [rv g 9, rv g 13] M
    refine x_iload_n 1 dX8_outputs_25 rfl rfl ?_
    refine x_aald31 dX8_outputs_26 k6 (by omega) (by omega) (by decide) (fun k7 => ?_)
    have ek7 : 9 + (139 + 8 * r) = 8 * r + 148 := by omega
    rw [ek7] at k7 ⊢
    refine x_getr (k := 3) (d := 7) dX8_outputs_27 fl8_212 k7 rfl (fun k8 => ?_)
    have ek8 : (8 * r + 148 + 7 : Int) = 8 * r + 155 := by omega
    rw [ek8] at k8 ⊢
    refine x_iload_n 2 dX8_outputs_30 rfl rfl ?_
    refine x_iald dX8_outputs_31 k8 (by omega) (by omega) (by decide) (fun ⟨a9, a9'⟩ => ?_)
    refine x_callVIP (as := [iv (M (8 * r + 155) t)]) (rest := []) dX8_outputs_32 vl8_215 k5 (c_X7_sizeOf g M (M (8 * r + 155) t) (by omega)) rfl rfl (Nat.le_of_ble_eq_true rfl) ⟨Nat.le_of_ble_eq_true rfl, Nat.le_of_ble_eq_true rfl⟩ (fun z10 h11 => ?_)
    have h11a := h11.2.1
    have h11b := h11.2.2
    have h11c := h11.1
    refine x_toX ?_
    refine x_iret dX8_outputs_35 rfl rfl ?_
    exact ⟨_, rfl, rfl, by omega⟩
  · exact x_throw hst ex_133 dX8_outputs_9 dX8_outputs_12 dX8_outputs_13 dX8_outputs_16 (Nat.le_of_ble_eq_true rfl) (Nat.le_of_ble_eq_true rfl) (Nat.le_of_ble_eq_true rfl) (Nat.le_of_ble_eq_true rfl) (⟨rfl, by omega, rfl⟩)

set_option maxHeartbeats 600000 in
set_option maxRecDepth 100000 in
theorem c_X8_sharing (g : GG) (M : Mem) (r t : Int) (C : CR M) (hr : rg r) (ht : rg t) (hD : DKs M) (hst : g.1.stackTraces = false) : Ctx g yX8_sharing cX8_sharing 3 (some .int) 3 [rv g 0, iv r, iv t] M (pIP (fun z => (0 ≤ r ∧ r < M 0 12 ∧ 0 ≤ t ∧ t < M (20 * M (8 * r + 148) 5 + 48) 3) ∧ z = M 16 (M (8 * r + 155) t)) M) (fun E M' => (E = "java/lang/IndexOutOfBoundsException" ∧ ((r < 0 ∨ M 0 12 ≤ r ∨ (0 ≤ r ∧ r < M 0 12 ∧ (t < 0 ∨ M (20 * M (8 * r + 148) 5 + 48) 3 ≤ t)))) ∧ M' = M)) := by
  refine ctx_of (by decide +kernel) (Nat.le_of_ble_eq_true rfl) ?_
  show Ok g mX8_sharing (rmX 3) (FX g (pIP (fun z => (0 ≤ r ∧ r < M 0 12 ∧ 0 ≤ t ∧ t < M (20 * M (8 * r + 148) 5 + 48) 3) ∧ z = M 16 (M (8 * r + 155) t)) M) (fun E M' => (E = "java/lang/IndexOutOfBoundsException" ∧ ((r < 0 ∨ M 0 12 ≤ r ∨ (0 ≤ r ∧ r < M 0 12 ∧ (t < 0 ∨ M (20 * M (8 * r + 148) 5 + 48) 3 ≤ t)))) ∧ M' = M))) 0 [(0, rv g 0), (1, iv r), (2, iv t)] [] M
  have c0 := C.1
  have hr1 := hr.1
  have hr2 := hr.2
  have ht1 := ht.1
  have ht2 := ht.2
  refine x_aload_n 0 dX8_sharing_0 rfl rfl ?_
  refine x_iload_n 1 dX8_sharing_1 rfl rfl ?_
  refine x_iload_n 2 dX8_sharing_2 rfl rfl ?_
  refine x_callVIP (as := [iv r, iv t]) (rest := []) dX8_sharing_3 vl8_200 k_0 (c_X8_hasTestOfRun g M r t C ⟨by omega, by omega⟩ ⟨by omega, by omega⟩) rfl rfl (Nat.le_of_ble_eq_true rfl) ⟨Nat.le_of_ble_eq_true rfl, Nat.le_of_ble_eq_true rfl⟩ (fun z1 h2 => ?_)
  refine x_if_ne (tgt := 17) dX8_sharing_6 (by decide) ⟨by omega, by omega⟩ (fun c4 => ?_) (fun c4 => ?_)
  · have i1 := C.run r (by omega) (by omega)
    have i2 := C.prob (M (8 * r + 148) 5) (by omega) (by omega)
    obtain ⟨-, -, -, -, -, d6, d7, d8, d9, d10⟩ := hD r t (by omega) (by omega) (by omega) (by omega)
    have d11 := d8.1
    refine x_aload_n 0 dX8_sharing_17 rfl rfl ?_
    refine x_getr (k := 5) (d := 13) dX8_sharing_18 fl8_45 k_0 rfl (fun k5 => ?_)
    have k5 : isK 7 4 13 := k5
    show Ok g mX8_sharing (rmX 3) (FX g (pIP (fun z => (0 ≤ r ∧ r < M 0 12 ∧ 0 ≤ t ∧ t < M (20 * M (8 * r + 148) 5 + 48) 3) ∧ z = M 16 (M (8 * r + 155) t)) M) (fun E M' => (E = "java/lang/IndexOutOfBoundsException" ∧ ((r < 0 ∨ M 0 12 ≤ r ∨ (0 ≤ r ∧ r < M 0 12 ∧ (t < 0 ∨ M (20 * M (8 * r + 148) 5 + 48) 3 ≤ t)))) ∧ M' = M))) 21 [(0, rv g 0), (1, iv r), (2, iv t)] [rv g 13] M
    refine x_aload_n 0 dX8_sharing_21 rfl rfl ?_
    refine x_getr (k := 3) (d := 9) dX8_sharing_22 fl8_31 k_0 rfl (fun k6 => ?_)
    have k6 : isK 31 40 9 := k6
    show Ok g mX8_sharing (rmX 3) (FX g (pIP (fun z => (0 ≤ r ∧ r < M 0 12 ∧ 0 ≤ t ∧ t < M (20 * M (8 * r + 148) 5 + 48) 3) ∧ z = M 16 (M (8 * r + 155) t)) M) (fun E M' => (E = "java/lang/IndexOutOfBoundsException" ∧ ((r < 0 ∨ M 0 12 ≤ r ∨ (0 ≤ r ∧ r < M 0 12 ∧ (t < 0 ∨ M (20 * M (8 * r + 148) 5 + 48) 3 ≤ t)))) ∧ M' = M))) 25 [(0, rv g 0), (1, iv r), (2, iv t)] [rv g 9, rv g 13] M
    refine x_iload_n 1 dX8_sharing_25 rfl rfl ?_
    refine x_aald31 dX8_sharing_26 k6 (by omega) (by omega) (by decide) (fun k7 => ?_)
    have ek7 : 9 + (139 + 8 * r) = 8 * r + 148 := by omega
    rw [ek7] at k7 ⊢
    refine x_getr (k := 3) (d := 7) dX8_sharing_27 fl8_212 k7 rfl (fun k8 => ?_)
    have ek8 : (8 * r + 148 + 7 : Int) = 8 * r + 155 := by omega
    rw [ek8] at k8 ⊢
    refine x_iload_n 2 dX8_sharing_30 rfl rfl ?_
    refine x_iald dX8_sharing_31 k8 (by omega) (by omega) (by decide) (fun ⟨a9, a9'⟩ => ?_)
    refine x_callVIP (as := [iv (M (8 * r + 155) t)]) (rest := []) dX8_sharing_32 vl8_228 k5 (c_X7_usersOf g M (M (8 * r + 155) t) (by omega)) rfl rfl (Nat.le_of_ble_eq_true rfl) ⟨Nat.le_of_ble_eq_true rfl, Nat.le_of_ble_eq_true rfl⟩ (fun z10 h11 => ?_)
    have h11a := h11.2.1
    have h11b := h11.2.2
    have h11c := h11.1
    refine x_toX ?_
    refine x_iret dX8_sharing_35 rfl rfl ?_
    exact ⟨_, rfl, rfl, by omega⟩
  · exact x_throw hst ex_133 dX8_sharing_9 dX8_sharing_12 dX8_sharing_13 dX8_sharing_16 (Nat.le_of_ble_eq_true rfl) (Nat.le_of_ble_eq_true rfl) (Nat.le_of_ble_eq_true rfl) (Nat.le_of_ble_eq_true rfl) (⟨rfl, by omega, rfl⟩)

set_option maxHeartbeats 600000 in
set_option maxRecDepth 100000 in
theorem c_X8_inStock (g : GG) (M : Mem) (c : Int) (hc : rg c) (hst : g.1.stackTraces = false) : Ctx g yX8_inStock cX8_inStock 2 (some .int) 2 [rv g 0, iv c] M (pIP (fun z => 0 ≤ c ∧ c ≤ 3 ∧ z = M 25 c) M) (fun E M' => (E = "java/lang/IllegalArgumentException" ∧ (c < 0 ∨ 3 < c) ∧ M' = M)) := by
  refine ctx_of (by decide +kernel) (Nat.le_of_ble_eq_true rfl) ?_
  show Ok g mX8_inStock (rmX 2) (FX g (pIP (fun z => 0 ≤ c ∧ c ≤ 3 ∧ z = M 25 c) M) (fun E M' => (E = "java/lang/IllegalArgumentException" ∧ (c < 0 ∨ 3 < c) ∧ M' = M))) 0 [(0, rv g 0), (1, iv c)] [] M
  have hc1 := hc.1
  have hc2 := hc.2
  refine x_iload_n 1 dX8_inStock_0 rfl rfl ?_
  refine x_callSIP (as := [iv c]) (rest := []) dX8_inStock_1 sl8_117 (c_X8_isColour g M c ⟨by omega, by omega⟩) rfl rfl (Nat.le_of_ble_eq_true rfl) ⟨Nat.le_of_ble_eq_true rfl, Nat.le_of_ble_eq_true rfl⟩ (fun z1 h2 => ?_)
  refine x_if_ne (tgt := 15) dX8_inStock_4 (by decide) ⟨by omega, by omega⟩ (fun c4 => ?_) (fun c4 => ?_)
  · refine x_aload_n 0 dX8_inStock_15 rfl rfl ?_
    refine x_getr (k := 6) (d := 17) dX8_inStock_16 fl8_52 k_0 rfl (fun k5 => ?_)
    have k5 : isK 0 6 17 := k5
    show Ok g mX8_inStock (rmX 2) (FX g (pIP (fun z => 0 ≤ c ∧ c ≤ 3 ∧ z = M 25 c) M) (fun E M' => (E = "java/lang/IllegalArgumentException" ∧ (c < 0 ∨ 3 < c) ∧ M' = M))) 19 [(0, rv g 0), (1, iv c)] [rv g 17] M
    refine x_getr (k := 3) (d := 8) dX8_inStock_19 fl8_231 k5 rfl (fun k6 => ?_)
    have k6 : isK 20 4 25 := k6
    show Ok g mX8_inStock (rmX 2) (FX g (pIP (fun z => 0 ≤ c ∧ c ≤ 3 ∧ z = M 25 c) M) (fun E M' => (E = "java/lang/IllegalArgumentException" ∧ (c < 0 ∨ 3 < c) ∧ M' = M))) 22 [(0, rv g 0), (1, iv c)] [rv g 25] M
    refine x_iload_n 1 dX8_inStock_22 rfl rfl ?_
    refine x_iald dX8_inStock_23 k6 (by omega) (by omega) (by decide) (fun ⟨a7, a7'⟩ => ?_)
    refine x_toX ?_
    refine x_iret dX8_inStock_24 rfl rfl ?_
    exact ⟨_, rfl, rfl, by omega⟩
  · exact x_throw hst ex_88 dX8_inStock_7 dX8_inStock_10 dX8_inStock_11 dX8_inStock_14 (Nat.le_of_ble_eq_true rfl) (Nat.le_of_ble_eq_true rfl) (Nat.le_of_ble_eq_true rfl) (Nat.le_of_ble_eq_true rfl) (⟨rfl, by omega, rfl⟩)

set_option maxHeartbeats 600000 in
set_option maxRecDepth 100000 in
theorem c_X8_out (g : GG) (M : Mem) (c : Int) (hc : rg c) (hst : g.1.stackTraces = false) : Ctx g yX8_out cX8_out 2 (some .int) 2 [rv g 0, iv c] M (pIP (fun z => 0 ≤ c ∧ c ≤ 3 ∧ z = M 26 c) M) (fun E M' => (E = "java/lang/IllegalArgumentException" ∧ (c < 0 ∨ 3 < c) ∧ M' = M)) := by
  refine ctx_of (by decide +kernel) (Nat.le_of_ble_eq_true rfl) ?_
  show Ok g mX8_out (rmX 2) (FX g (pIP (fun z => 0 ≤ c ∧ c ≤ 3 ∧ z = M 26 c) M) (fun E M' => (E = "java/lang/IllegalArgumentException" ∧ (c < 0 ∨ 3 < c) ∧ M' = M))) 0 [(0, rv g 0), (1, iv c)] [] M
  have hc1 := hc.1
  have hc2 := hc.2
  refine x_iload_n 1 dX8_out_0 rfl rfl ?_
  refine x_callSIP (as := [iv c]) (rest := []) dX8_out_1 sl8_117 (c_X8_isColour g M c ⟨by omega, by omega⟩) rfl rfl (Nat.le_of_ble_eq_true rfl) ⟨Nat.le_of_ble_eq_true rfl, Nat.le_of_ble_eq_true rfl⟩ (fun z1 h2 => ?_)
  refine x_if_ne (tgt := 15) dX8_out_4 (by decide) ⟨by omega, by omega⟩ (fun c4 => ?_) (fun c4 => ?_)
  · refine x_aload_n 0 dX8_out_15 rfl rfl ?_
    refine x_getr (k := 6) (d := 17) dX8_out_16 fl8_52 k_0 rfl (fun k5 => ?_)
    have k5 : isK 0 6 17 := k5
    show Ok g mX8_out (rmX 2) (FX g (pIP (fun z => 0 ≤ c ∧ c ≤ 3 ∧ z = M 26 c) M) (fun E M' => (E = "java/lang/IllegalArgumentException" ∧ (c < 0 ∨ 3 < c) ∧ M' = M))) 19 [(0, rv g 0), (1, iv c)] [rv g 17] M
    refine x_getr (k := 4) (d := 9) dX8_out_19 fl8_238 k5 rfl (fun k6 => ?_)
    have k6 : isK 20 4 26 := k6
    show Ok g mX8_out (rmX 2) (FX g (pIP (fun z => 0 ≤ c ∧ c ≤ 3 ∧ z = M 26 c) M) (fun E M' => (E = "java/lang/IllegalArgumentException" ∧ (c < 0 ∨ 3 < c) ∧ M' = M))) 22 [(0, rv g 0), (1, iv c)] [rv g 26] M
    refine x_iload_n 1 dX8_out_22 rfl rfl ?_
    refine x_iald dX8_out_23 k6 (by omega) (by omega) (by decide) (fun ⟨a7, a7'⟩ => ?_)
    refine x_toX ?_
    refine x_iret dX8_out_24 rfl rfl ?_
    exact ⟨_, rfl, rfl, by omega⟩
  · exact x_throw hst ex_88 dX8_out_7 dX8_out_10 dX8_out_11 dX8_out_14 (Nat.le_of_ble_eq_true rfl) (Nat.le_of_ble_eq_true rfl) (Nat.le_of_ble_eq_true rfl) (Nat.le_of_ble_eq_true rfl) (⟨rfl, by omega, rfl⟩)

set_option maxHeartbeats 600000 in
set_option maxRecDepth 100000 in
theorem c_X8_balloon (g : GG) (M : Mem) (t p : Int) (C : CR M) (ht : rg t) (hp : rg p) (hS : ∀ x, 0 ≤ x → x < 40 → 0 ≤ M 18 x ∧ M 18 x < 65536) (hst : g.1.stackTraces = false) : Ctx g yX8_balloon cX8_balloon 3 (some .char) 2 [rv g 0, iv t, iv p] M (pIP (fun z => (0 ≤ t ∧ t < M 0 11 ∧ 0 ≤ p ∧ p < M 0 10) ∧ z = M 18 (5 * t + p)) M) (fun E M' => (E = "java/lang/IndexOutOfBoundsException" ∧ (t < 0 ∨ M 0 11 ≤ t ∨ p < 0 ∨ M 0 10 ≤ p) ∧ M' = M)) := by
  refine ctx_of (by decide +kernel) (Nat.le_of_ble_eq_true rfl) ?_
  show Ok g mX8_balloon (rmX 2) (FX g (pIP (fun z => (0 ≤ t ∧ t < M 0 11 ∧ 0 ≤ p ∧ p < M 0 10) ∧ z = M 18 (5 * t + p)) M) (fun E M' => (E = "java/lang/IndexOutOfBoundsException" ∧ (t < 0 ∨ M 0 11 ≤ t ∨ p < 0 ∨ M 0 10 ≤ p) ∧ M' = M))) 0 [(0, rv g 0), (1, iv t), (2, iv p)] [] M
  have c0 := C.1
  have ht1 := ht.1
  have ht2 := ht.2
  have hp1 := hp.1
  have hp2 := hp.2
  refine x_aload_n 0 dX8_balloon_0 rfl rfl ?_
  refine x_iload_n 1 dX8_balloon_1 rfl rfl ?_
  refine x_callVIP (as := [iv t]) (rest := []) dX8_balloon_2 vl8_157 k_0 (c_X8_hasTeam g M t (by omega) ⟨by omega, by omega⟩) rfl rfl (Nat.le_of_ble_eq_true rfl) ⟨Nat.le_of_ble_eq_true rfl, Nat.le_of_ble_eq_true rfl⟩ (fun z1 h2 => ?_)
  refine x_if_eq (tgt := 16) dX8_balloon_5 (by decide) ⟨by omega, by omega⟩ (fun c4 => ?_) (fun c4 => ?_)
  · exact x_throw hst ex_133 dX8_balloon_16 dX8_balloon_19 dX8_balloon_20 dX8_balloon_23 (Nat.le_of_ble_eq_true rfl) (Nat.le_of_ble_eq_true rfl) (Nat.le_of_ble_eq_true rfl) (Nat.le_of_ble_eq_true rfl) (⟨rfl, by omega, rfl⟩)
  · refine x_aload_n 0 dX8_balloon_8 rfl rfl ?_
    refine x_iload_n 2 dX8_balloon_9 rfl rfl ?_
    refine x_callVIP (as := [iv p]) (rest := []) dX8_balloon_10 vl8_130 k_0 (c_X8_hasProblem g M p (by omega) ⟨by omega, by omega⟩) rfl rfl (Nat.le_of_ble_eq_true rfl) ⟨Nat.le_of_ble_eq_true rfl, Nat.le_of_ble_eq_true rfl⟩ (fun z5 h6 => ?_)
    refine x_if_ne (tgt := 24) dX8_balloon_13 (by decide) ⟨by omega, by omega⟩ (fun c8 => ?_) (fun c8 => ?_)
    · refine x_aload_n 0 dX8_balloon_24 rfl rfl ?_
      refine x_getr (k := 6) (d := 17) dX8_balloon_25 fl8_52 k_0 rfl (fun k9 => ?_)
      have k9 : isK 0 6 17 := k9
      show Ok g mX8_balloon (rmX 2) (FX g (pIP (fun z => (0 ≤ t ∧ t < M 0 11 ∧ 0 ≤ p ∧ p < M 0 10) ∧ z = M 18 (5 * t + p)) M) (fun E M' => (E = "java/lang/IndexOutOfBoundsException" ∧ (t < 0 ∨ M 0 11 ≤ t ∨ p < 0 ∨ M 0 10 ≤ p) ∧ M' = M))) 28 [(0, rv g 0), (1, iv t), (2, iv p)] [rv g 17] M
      refine x_getr (k := 0) (d := 1) dX8_balloon_28 fl8_241 k9 rfl (fun k10 => ?_)
      have k10 : isK 21 40 18 := k10
      show Ok g mX8_balloon (rmX 2) (FX g (pIP (fun z => (0 ≤ t ∧ t < M 0 11 ∧ 0 ≤ p ∧ p < M 0 10) ∧ z = M 18 (5 * t + p)) M) (fun E M' => (E = "java/lang/IndexOutOfBoundsException" ∧ (t < 0 ∨ M 0 11 ≤ t ∨ p < 0 ∨ M 0 10 ≤ p) ∧ M' = M))) 31 [(0, rv g 0), (1, iv t), (2, iv p)] [rv g 18] M
      refine x_iload_n 1 dX8_balloon_31 rfl rfl ?_
      refine x_iload_n 2 dX8_balloon_32 rfl rfl ?_
      refine x_callSIP (as := [iv t, iv p]) (rest := [rv g 18]) dX8_balloon_33 sl8_244 (c_X8_spotOf g M t p) rfl rfl (Nat.le_of_ble_eq_true rfl) ⟨Nat.le_of_ble_eq_true rfl, Nat.le_of_ble_eq_true rfl⟩ (fun z11 h12 => ?_)
      have hsp := h12
      have h18 := hS z11 (by omega) (by omega)
      refine x_cald dX8_balloon_36 k10 (by omega) (by omega) (by decide) (fun ⟨a14, a14'⟩ => ?_)
      refine x_toX ?_
      refine x_iret dX8_balloon_37 rfl (iZ_char (by omega) (by omega)) ?_
      exact ⟨_, rfl, rfl, by omega, by rw [hsp]⟩
    · exact x_throw hst ex_133 dX8_balloon_16 dX8_balloon_19 dX8_balloon_20 dX8_balloon_23 (Nat.le_of_ble_eq_true rfl) (Nat.le_of_ble_eq_true rfl) (Nat.le_of_ble_eq_true rfl) (Nat.le_of_ble_eq_true rfl) (⟨rfl, by omega, rfl⟩)

set_option maxHeartbeats 600000 in
set_option maxRecDepth 100000 in
theorem c_X8_pending (g : GG) (M : Mem) (t p : Int) (C : CR M) (ht : rg t) (hp : rg p) (hst : g.1.stackTraces = false) : Ctx g yX8_pending cX8_pending 3 (some .int) 2 [rv g 0, iv t, iv p] M (pIP (fun z => (0 ≤ t ∧ t < M 0 11 ∧ 0 ≤ p ∧ p < M 0 10) ∧ z = cpn M t p) M) (fun E M' => (E = "java/lang/IndexOutOfBoundsException" ∧ (t < 0 ∨ M 0 11 ≤ t ∨ p < 0 ∨ M 0 10 ≤ p) ∧ M' = M)) := by
  refine ctx_of (by decide +kernel) (Nat.le_of_ble_eq_true rfl) ?_
  show Ok g mX8_pending (rmX 2) (FX g (pIP (fun z => (0 ≤ t ∧ t < M 0 11 ∧ 0 ≤ p ∧ p < M 0 10) ∧ z = cpn M t p) M) (fun E M' => (E = "java/lang/IndexOutOfBoundsException" ∧ (t < 0 ∨ M 0 11 ≤ t ∨ p < 0 ∨ M 0 10 ≤ p) ∧ M' = M))) 0 [(0, rv g 0), (1, iv t), (2, iv p)] [] M
  have c0 := C.1
  have ht1 := ht.1
  have ht2 := ht.2
  have hp1 := hp.1
  have hp2 := hp.2
  refine x_aload_n 0 dX8_pending_0 rfl rfl ?_
  refine x_iload_n 1 dX8_pending_1 rfl rfl ?_
  refine x_callVIP (as := [iv t]) (rest := []) dX8_pending_2 vl8_157 k_0 (c_X8_hasTeam g M t (by omega) ⟨by omega, by omega⟩) rfl rfl (Nat.le_of_ble_eq_true rfl) ⟨Nat.le_of_ble_eq_true rfl, Nat.le_of_ble_eq_true rfl⟩ (fun z1 h2 => ?_)
  refine x_if_eq (tgt := 16) dX8_pending_5 (by decide) ⟨by omega, by omega⟩ (fun c4 => ?_) (fun c4 => ?_)
  · exact x_throw hst ex_133 dX8_pending_16 dX8_pending_19 dX8_pending_20 dX8_pending_23 (Nat.le_of_ble_eq_true rfl) (Nat.le_of_ble_eq_true rfl) (Nat.le_of_ble_eq_true rfl) (Nat.le_of_ble_eq_true rfl) (⟨rfl, by omega, rfl⟩)
  · refine x_aload_n 0 dX8_pending_8 rfl rfl ?_
    refine x_iload_n 2 dX8_pending_9 rfl rfl ?_
    refine x_callVIP (as := [iv p]) (rest := []) dX8_pending_10 vl8_130 k_0 (c_X8_hasProblem g M p (by omega) ⟨by omega, by omega⟩) rfl rfl (Nat.le_of_ble_eq_true rfl) ⟨Nat.le_of_ble_eq_true rfl, Nat.le_of_ble_eq_true rfl⟩ (fun z5 h6 => ?_)
    refine x_if_ne (tgt := 24) dX8_pending_13 (by decide) ⟨by omega, by omega⟩ (fun c8 => ?_) (fun c8 => ?_)
    · refine x_aload_n 0 dX8_pending_24 rfl rfl ?_
      refine x_iload_n 1 dX8_pending_25 rfl rfl ?_
      refine x_iload_n 2 dX8_pending_26 rfl rfl ?_
      refine x_callVIP (as := [iv t, iv p]) (rest := []) dX8_pending_27 vl8_263 k_0 (c_X8_countPending g M t p C ⟨by omega, by omega⟩ ⟨by omega, by omega⟩) rfl rfl (Nat.le_of_ble_eq_true rfl) ⟨Nat.le_of_ble_eq_true rfl, Nat.le_of_ble_eq_true rfl⟩ (fun z9 h10 => ?_)
      refine x_toX ?_
      refine x_iret dX8_pending_30 rfl rfl ?_
      exact ⟨_, rfl, rfl, by omega⟩
    · exact x_throw hst ex_133 dX8_pending_16 dX8_pending_19 dX8_pending_20 dX8_pending_23 (Nat.le_of_ble_eq_true rfl) (Nat.le_of_ble_eq_true rfl) (Nat.le_of_ble_eq_true rfl) (Nat.le_of_ble_eq_true rfl) (⟨rfl, by omega, rfl⟩)
