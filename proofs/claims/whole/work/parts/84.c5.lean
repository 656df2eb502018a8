set_option maxHeartbeats 600000 in
set_option maxRecDepth 100000 in
theorem c_X8_output (g : GG) (M : Mem) (r t k : Int) (C : CR M) (hr : rg r) (ht : rg t) (hk : rg k) (hD : DKs M) (hst : g.1.stackTraces = false) : Ctx g yX8_output cX8_output 5 (some .int) 3 [rv g 0, iv r, iv t, iv k] M (pIP (fun z => (0 ≤ r ∧ r < M 0 12 ∧ 0 ≤ t ∧ t < M (20 * M (8 * r + 148) 5 + 48) 3) ∧ (0 ≤ k ∧ k < M 15 (M (8 * r + 155) t)) ∧ z = M 14 (M (8 * r + 155) t * 6 + k)) M) (fun E M' => (E = "java/lang/IndexOutOfBoundsException" ∧ ((r < 0 ∨ M 0 12 ≤ r ∨ (0 ≤ r ∧ r < M 0 12 ∧ (t < 0 ∨ M (20 * M (8 * r + 148) 5 + 48) 3 ≤ t)))) ∧ M' = M) ∨ (E = "java/util/NoSuchElementException" ∧ ((0 ≤ r ∧ r < M 0 12 ∧ 0 ≤ t ∧ t < M (20 * M (8 * r + 148) 5 + 48) 3) ∧ (k < 0 ∨ M 15 (M (8 * r + 155) t) ≤ k)) ∧ M' = M)) := by
  refine ctx_of (by decide +kernel) (Nat.le_of_ble_eq_true rfl) ?_
  show Ok g mX8_output (rmX 3) (FX g (pIP (fun z => (0 ≤ r ∧ r < M 0 12 ∧ 0 ≤ t ∧ t < M (20 * M (8 * r + 148) 5 + 48) 3) ∧ (0 ≤ k ∧ k < M 15 (M (8 * r + 155) t)) ∧ z = M 14 (M (8 * r + 155) t * 6 + k)) M) (fun E M' => (E = "java/lang/IndexOutOfBoundsException" ∧ ((r < 0 ∨ M 0 12 ≤ r ∨ (0 ≤ r ∧ r < M 0 12 ∧ (t < 0 ∨ M (20 * M (8 * r + 148) 5 + 48) 3 ≤ t)))) ∧ M' = M) ∨ (E = "java/util/NoSuchElementException" ∧ ((0 ≤ r ∧ r < M 0 12 ∧ 0 ≤ t ∧ t < M (20 * M (8 * r + 148) 5 + 48) 3) ∧ (k < 0 ∨ M 15 (M (8 * r + 155) t) ≤ k)) ∧ M' = M))) 0 [(0, rv g 0), (1, iv r), (2, iv t), (3, iv k)] [] M
  have c0 := C.1
  have hr1 := hr.1
  have hr2 := hr.2
  have ht1 := ht.1
  have ht2 := ht.2
  have hk1 := hk.1
  have hk2 := hk.2
  refine x_aload_n 0 dX8_output_0 rfl rfl ?_
  refine x_iload_n 1 dX8_output_1 rfl rfl ?_
  refine x_iload_n 2 dX8_output_2 rfl rfl ?_
  refine x_callVIP (as := [iv r, iv t]) (rest := []) dX8_output_3 vl8_200 k_0 (c_X8_hasTestOfRun g M r t C ⟨by omega, by omega⟩ ⟨by omega, by omega⟩) rfl rfl (Nat.le_of_ble_eq_true rfl) ⟨Nat.le_of_ble_eq_true rfl, Nat.le_of_ble_eq_true rfl⟩ (fun z1 h2 => ?_)
  refine x_if_ne (tgt := 17) dX8_output_6 (by decide) ⟨by omega, by omega⟩ (fun c4 => ?_) (fun c4 => ?_)
  · have i1 := C.run r (by omega) (by omega)
    have i2 := C.prob (M (8 * r + 148) 5) (by omega) (by omega)
    obtain ⟨-, -, -, -, -, d6, d7, d8, d9, d10⟩ := hD r t (by omega) (by omega) (by omega) (by omega)
    have d11 := d8.1
    refine x_aload_n 0 dX8_output_17 rfl rfl ?_
    refine x_getr (k := 3) (d := 9) dX8_output_18 fl8_31 k_0 rfl (fun k5 => ?_)
    have k5 : isK 31 40 9 := k5
    show Ok g mX8_output (rmX 3) (FX g (pIP (fun z => (0 ≤ r ∧ r < M 0 12 ∧ 0 ≤ t ∧ t < M (20 * M (8 * r + 148) 5 + 48) 3) ∧ (0 ≤ k ∧ k < M 15 (M (8 * r + 155) t)) ∧ z = M 14 (M (8 * r + 155) t * 6 + k)) M) (fun E M' => (E = "java/lang/IndexOutOfBoundsException" ∧ ((r < 0 ∨ M 0 12 ≤ r ∨ (0 ≤ r ∧ r < M 0 12 ∧ (t < 0 ∨ M (20 * M (8 * r + 148) 5 + 48) 3 ≤ t)))) ∧ M' = M) ∨ (E = "java/util/NoSuchElementException" ∧ ((0 ≤ r ∧ r < M 0 12 ∧ 0 ≤ t ∧ t < M (20 * M (8 * r + 148) 5 + 48) 3) ∧ (k < 0 ∨ M 15 (M (8 * r + 155) t) ≤ k)) ∧ M' = M))) 21 [(0, rv g 0), (1, iv r), (2, iv t), (3, iv k)] [rv g 9] M
    refine x_iload_n 1 dX8_output_21 rfl rfl ?_
    refine x_aald31 dX8_output_22 k5 (by omega) (by omega) (by decide) (fun k6 => ?_)
    have ek6 : 9 + (139 + 8 * r) = 8 * r + 148 := by omega
    rw [ek6] at k6 ⊢
    refine x_getr (k := 3) (d := 7) dX8_output_23 fl8_212 k6 rfl (fun k7 => ?_)
    have ek7 : (8 * r + 148 + 7 : Int) = 8 * r + 155 := by omega
    rw [ek7] at k7 ⊢
    refine x_iload_n 2 dX8_output_26 rfl rfl ?_
    refine x_iald dX8_output_27 k7 (by omega) (by omega) (by decide) (fun ⟨a8, a8'⟩ => ?_)
    refine x_istore (lv' := [(4, iv (M (8 * r + 155) t)), (0, rv g 0), (1, iv r), (2, iv t), (3, iv k)]) dX8_output_28 (Nat.le_of_ble_eq_true rfl) rfl ?_
    refine x_iload_n 4 dX8_output_30 rfl rfl ?_
    refine x_iconst (0) dX8_output_31 rfl ?_
    refine x_aload_n 1 dX8_output_32 rfl rfl ?_
    refine x_getr (k := 5) (d := 13) dX8_output_33 fl8_45 k_0 rfl (fun k9 => ?_)
    have k9 : isK 7 4 13 := k9
    show Ok g mX8_output (rmX 3) (FX g (pIP (fun z => (0 ≤ r ∧ r < M 0 12 ∧ 0 ≤ t ∧ t < M (20 * M (8 * r + 148) 5 + 48) 3) ∧ (0 ≤ k ∧ k < M 15 (M (8 * r + 155) t)) ∧ z = M 14 (M (8 * r + 155) t * 6 + k)) M) (fun E M' => (E = "java/lang/IndexOutOfBoundsException" ∧ ((r < 0 ∨ M 0 12 ≤ r ∨ (0 ≤ r ∧ r < M 0 12 ∧ (t < 0 ∨ M (20 * M (8 * r + 148) 5 + 48) 3 ≤ t)))) ∧ M' = M) ∨ (E = "java/util/NoSuchElementException" ∧ ((0 ≤ r ∧ r < M 0 12 ∧ 0 ≤ t ∧ t < M (20 * M (8 * r + 148) 5 + 48) 3) ∧ (k < 0 ∨ M 15 (M (8 * r + 155) t) ≤ k)) ∧ M' = M))) 36 [(4, iv (M (8 * r + 155) t)), (0, rv g 0), (1, iv r), (2, iv t), (3, iv k)] [rv g 13, iv 0, iv k] M
    refine x_iload 0 dX8_output_36 rfl ?_
    refine x_callVIP (as := [iv (M (8 * r + 155) t)]) (rest := [iv 0, iv k]) dX8_output_38 vl8_215 k9 (c_X7_sizeOf g M (M (8 * r + 155) t) (by omega)) rfl rfl (Nat.le_of_ble_eq_true rfl) ⟨Nat.le_of_ble_eq_true rfl, Nat.le_of_ble_eq_true rfl⟩ (fun z10 h11 => ?_)
    have h11a := h11.2.1
    have h11b := h11.2.2
    have h11c := h11.1
    refine x_iconst (1) dX8_output_41 rfl ?_
    refine x_isub dX8_output_42 ?_
    refine x_callSIP (as := [iv k, iv 0, iv (z10 - 1)]) (rest := []) dX8_output_43 sl8_120 (c_X8_isWithin g M k 0 (z10 - 1) ⟨by omega, by omega⟩ ⟨by omega, by omega⟩ ⟨by omega, by omega⟩) rfl rfl (Nat.le_of_ble_eq_true rfl) ⟨Nat.le_of_ble_eq_true rfl, Nat.le_of_ble_eq_true rfl⟩ (fun z13 h14 => ?_)
    refine x_if_ne (tgt := 57) dX8_output_46 (by decide) ⟨by omega, by omega⟩ (fun c16 => ?_) (fun c16 => ?_)
    · refine x_aload_n 1 dX8_output_57 rfl rfl ?_
      refine x_getr (k := 5) (d := 13) dX8_output_58 fl8_45 k_0 rfl (fun k17 => ?_)
      have k17 : isK 7 4 13 := k17
      show Ok g mX8_output (rmX 3) (FX g (pIP (fun z => (0 ≤ r ∧ r < M 0 12 ∧ 0 ≤ t ∧ t < M (20 * M (8 * r + 148) 5 + 48) 3) ∧ (0 ≤ k ∧ k < M 15 (M (8 * r + 155) t)) ∧ z = M 14 (M (8 * r + 155) t * 6 + k)) M) (fun E M' => (E = "java/lang/IndexOutOfBoundsException" ∧ ((r < 0 ∨ M 0 12 ≤ r ∨ (0 ≤ r ∧ r < M 0 12 ∧ (t < 0 ∨ M (20 * M (8 * r + 148) 5 + 48) 3 ≤ t)))) ∧ M' = M) ∨ (E = "java/util/NoSuchElementException" ∧ ((0 ≤ r ∧ r < M 0 12 ∧ 0 ≤ t ∧ t < M (20 * M (8 * r + 148) 5 + 48) 3) ∧ (k < 0 ∨ M 15 (M (8 * r + 155) t) ≤ k)) ∧ M' = M))) 61 [(4, iv (M (8 * r + 155) t)), (0, rv g 0), (1, iv r), (2, iv t), (3, iv k)] [rv g 13] M
      refine x_iload 0 dX8_output_61 rfl ?_
      refine x_iload_n 4 dX8_output_63 rfl rfl ?_
      refine x_callVIP (as := [iv (M (8 * r + 155) t), iv k]) (rest := []) dX8_output_64 vl8_222 k17 (c_X7_numberAt g M (M (8 * r + 155) t) k (by omega) (by omega)) rfl rfl (Nat.le_of_ble_eq_true rfl) ⟨Nat.le_of_ble_eq_true rfl, Nat.le_of_ble_eq_true rfl⟩ (fun z18 h19 => ?_)
      refine x_toX ?_
      refine x_iret dX8_output_67 rfl rfl ?_
      exact ⟨_, rfl, rfl, by omega, by omega, by omega⟩
    · exact x_throw hst ex_219 dX8_output_49 dX8_output_52 dX8_output_53 dX8_output_56 (Nat.le_of_ble_eq_true rfl) (Nat.le_of_ble_eq_true rfl) (Nat.le_of_ble_eq_true rfl) (Nat.le_of_ble_eq_true rfl) (Or.inr (⟨rfl, ⟨by omega, by omega⟩, rfl⟩))
  · exact x_throw hst ex_133 dX8_output_9 dX8_output_12 dX8_output_13 dX8_output_16 (Nat.le_of_ble_eq_true rfl) (Nat.le_of_ble_eq_true rfl) (Nat.le_of_ble_eq_true rfl) (Nat.le_of_ble_eq_true rfl) (Or.inl ⟨rfl, by omega, rfl⟩)

set_option maxHeartbeats 600000 in
set_option maxRecDepth 100000 in
theorem c_X8_solved (g : GG) (M : Mem) (t b : Int) (C : CR M) (ht : rg t) (b0 : b = 0 ∨ b = 1) (hst : g.1.stackTraces = false) : Ctx g yX8_solved cX8_solved 3 (some .int) 2 [rv g 0, iv t, iv b] M (pIP (fun z => (0 ≤ t ∧ t < M 0 11) ∧ z = M (7 * b + 30) t) M) (fun E M' => (E = "java/lang/IndexOutOfBoundsException" ∧ (t < 0 ∨ M 0 11 ≤ t) ∧ M' = M)) := by
  refine ctx_of (by decide +kernel) (Nat.le_of_ble_eq_true rfl) ?_
  show Ok g mX8_solved (rmX 2) (FX g (pIP (fun z => (0 ≤ t ∧ t < M 0 11) ∧ z = M (7 * b + 30) t) M) (fun E M' => (E = "java/lang/IndexOutOfBoundsException" ∧ (t < 0 ∨ M 0 11 ≤ t) ∧ M' = M))) 0 [(0, rv g 0), (1, iv t), (2, iv b)] [] M
  have c0 := C.1
  have ht1 := ht.1
  have ht2 := ht.2
  refine x_aload_n 0 dX8_solved_0 rfl rfl ?_
  refine x_iload_n 1 dX8_solved_1 rfl rfl ?_
  refine x_callVIP (as := [iv t]) (rest := []) dX8_solved_2 vl8_157 k_0 (c_X8_hasTeam g M t (by omega) ⟨by omega, by omega⟩) rfl rfl (Nat.le_of_ble_eq_true rfl) ⟨Nat.le_of_ble_eq_true rfl, Nat.le_of_ble_eq_true rfl⟩ (fun z1 h2 => ?_)
  refine x_if_ne (tgt := 16) dX8_solved_5 (by decide) ⟨by omega, by omega⟩ (fun c4 => ?_) (fun c4 => ?_)
  · refine x_aload_n 0 dX8_solved_16 rfl rfl ?_
    refine x_iload_n 2 dX8_solved_17 rfl rfl ?_
    refine x_callVRP (as := [iv b]) (rest := []) dX8_solved_18 vl8_276 k_0 (c_X8_boardOf g M b b0) rfl rfl (Nat.le_of_ble_eq_true rfl) ⟨Nat.le_of_ble_eq_true rfl, Nat.le_of_ble_eq_true rfl⟩ (fun z5 h6 => ?_)
    have ho := h6.1
    refine x_getr (k := 2) (d := 3) dX8_solved_21 fl8_280 h6.2 rfl (fun k8 => ?_)
    refine x_iload_n 1 dX8_solved_24 rfl rfl ?_
    refine x_iald dX8_solved_25 k8 (by omega) (by omega) (by decide) (fun ⟨a9, a9'⟩ => ?_)
    refine x_toX ?_
    refine x_iret dX8_solved_26 rfl rfl ?_
    exact ⟨_, rfl, rfl, by omega, by rw [ho, show 7 * b + 27 + 3 = 7 * b + 30 by omega]⟩
  · exact x_throw hst ex_133 dX8_solved_8 dX8_solved_11 dX8_solved_12 dX8_solved_15 (Nat.le_of_ble_eq_true rfl) (Nat.le_of_ble_eq_true rfl) (Nat.le_of_ble_eq_true rfl) (Nat.le_of_ble_eq_true rfl) (⟨rfl, by omega, rfl⟩)

set_option maxHeartbeats 600000 in
set_option maxRecDepth 100000 in
theorem c_X8_penalty (g : GG) (M : Mem) (t b : Int) (C : CR M) (ht : rg t) (b0 : b = 0 ∨ b = 1) (hst : g.1.stackTraces = false) : Ctx g yX8_penalty cX8_penalty 3 (some .int) 2 [rv g 0, iv t, iv b] M (pIP (fun z => (0 ≤ t ∧ t < M 0 11) ∧ z = M (7 * b + 31) t) M) (fun E M' => (E = "java/lang/IndexOutOfBoundsException" ∧ (t < 0 ∨ M 0 11 ≤ t) ∧ M' = M)) := by
  refine ctx_of (by decide +kernel) (Nat.le_of_ble_eq_true rfl) ?_
  show Ok g mX8_penalty (rmX 2) (FX g (pIP (fun z => (0 ≤ t ∧ t < M 0 11) ∧ z = M (7 * b + 31) t) M) (fun E M' => (E = "java/lang/IndexOutOfBoundsException" ∧ (t < 0 ∨ M 0 11 ≤ t) ∧ M' = M))) 0 [(0, rv g 0), (1, iv t), (2, iv b)] [] M
  have c0 := C.1
  have ht1 := ht.1
  have ht2 := ht.2
  refine x_aload_n 0 dX8_penalty_0 rfl rfl ?_
  refine x_iload_n 1 dX8_penalty_1 rfl rfl ?_
  refine x_callVIP (as := [iv t]) (rest := []) dX8_penalty_2 vl8_157 k_0 (c_X8_hasTeam g M t (by omega) ⟨by omega, by omega⟩) rfl rfl (Nat.le_of_ble_eq_true rfl) ⟨Nat.le_of_ble_eq_true rfl, Nat.le_of_ble_eq_true rfl⟩ (fun z1 h2 => ?_)
  refine x_if_ne (tgt := 16) dX8_penalty_5 (by decide) ⟨by omega, by omega⟩ (fun c4 => ?_) (fun c4 => ?_)
  · refine x_aload_n 0 dX8_penalty_16 rfl rfl ?_
    refine x_iload_n 2 dX8_penalty_17 rfl rfl ?_
    refine x_callVRP (as := [iv b]) (rest := []) dX8_penalty_18 vl8_276 k_0 (c_X8_boardOf g M b b0) rfl rfl (Nat.le_of_ble_eq_true rfl) ⟨Nat.le_of_ble_eq_true rfl, Nat.le_of_ble_eq_true rfl⟩ (fun z5 h6 => ?_)
    have ho := h6.1
    refine x_getr (k := 3) (d := 4) dX8_penalty_21 fl8_283 h6.2 rfl (fun k8 => ?_)
    refine x_iload_n 1 dX8_penalty_24 rfl rfl ?_
    refine x_iald dX8_penalty_25 k8 (by omega) (by omega) (by decide) (fun ⟨a9, a9'⟩ => ?_)
    refine x_toX ?_
    refine x_iret dX8_penalty_26 rfl rfl ?_
    exact ⟨_, rfl, rfl, by omega, by rw [ho, show 7 * b + 27 + 4 = 7 * b + 31 by omega]⟩
  · exact x_throw hst ex_133 dX8_penalty_8 dX8_penalty_11 dX8_penalty_12 dX8_penalty_15 (Nat.le_of_ble_eq_true rfl) (Nat.le_of_ble_eq_true rfl) (Nat.le_of_ble_eq_true rfl) (Nat.le_of_ble_eq_true rfl) (⟨rfl, by omega, rfl⟩)

set_option maxHeartbeats 600000 in
set_option maxRecDepth 100000 in
theorem c_X8_rank (g : GG) (M : Mem) (t b : Int) (C : CR M) (ht : rg t) (b0 : b = 0 ∨ b = 1) (hB : BOK M (7 * b + 27) b) (hst : g.1.stackTraces = false) : Ctx g yX8_rank cX8_rank 3 (some .int) 2 [rv g 0, iv t, iv b] M (pIP (fun z => (0 ≤ t ∧ t < M 0 11) ∧ ∃ i, z = i + 1 ∧ 0 ≤ i ∧ i < M 0 11 ∧ M (7 * b + 33) i = t) M) (fun E M' => (E = "java/lang/IndexOutOfBoundsException" ∧ (t < 0 ∨ M 0 11 ≤ t) ∧ M' = M)) := by
  refine ctx_of (by decide +kernel) (Nat.le_of_ble_eq_true rfl) ?_
  show Ok g mX8_rank (rmX 2) (FX g (pIP (fun z => (0 ≤ t ∧ t < M 0 11) ∧ ∃ i, z = i + 1 ∧ 0 ≤ i ∧ i < M 0 11 ∧ M (7 * b + 33) i = t) M) (fun E M' => (E = "java/lang/IndexOutOfBoundsException" ∧ (t < 0 ∨ M 0 11 ≤ t) ∧ M' = M))) 0 [(0, rv g 0), (1, iv t), (2, iv b)] [] M
  have c0 := C.1
  have ht1 := ht.1
  have ht2 := ht.2
  refine x_aload_n 0 dX8_rank_0 rfl rfl ?_
  refine x_iload_n 1 dX8_rank_1 rfl rfl ?_
  refine x_callVIP (as := [iv t]) (rest := []) dX8_rank_2 vl8_157 k_0 (c_X8_hasTeam g M t (by omega) ⟨by omega, by omega⟩) rfl rfl (Nat.le_of_ble_eq_true rfl) ⟨Nat.le_of_ble_eq_true rfl, Nat.le_of_ble_eq_true rfl⟩ (fun z1 h2 => ?_)
  refine x_if_ne (tgt := 16) dX8_rank_5 (by decide) ⟨by omega, by omega⟩ (fun c4 => ?_) (fun c4 => ?_)
  · refine x_aload_n 0 dX8_rank_16 rfl rfl ?_
    refine x_iload_n 2 dX8_rank_17 rfl rfl ?_
    refine x_callVRP (as := [iv b]) (rest := []) dX8_rank_18 vl8_276 k_0 (c_X8_boardOf g M b b0) rfl rfl (Nat.le_of_ble_eq_true rfl) ⟨Nat.le_of_ble_eq_true rfl, Nat.le_of_ble_eq_true rfl⟩ (fun z5 h6 => ?_)
    have ho := h6.1
    refine x_iload_n 1 dX8_rank_21 rfl rfl ?_
    refine x_callVIP (as := [iv t]) (rest := []) dX8_rank_22 vl8_286 h6.2 (c_X1_rankOf g M z5 t (M 0 11) h6.2 (by rw [ho]; exact hB.1) (by omega) (by rw [ho]; exact hB.2.2.2.2 t (by omega) (by omega)) ⟨by omega, by omega⟩) rfl rfl (Nat.le_of_ble_eq_true rfl) ⟨Nat.le_of_ble_eq_true rfl, Nat.le_of_ble_eq_true rfl⟩ (fun z8 h9 => ?_)
    have hk := h9
    rw [ho, show 7 * b + 27 + 6 = 7 * b + 33 by omega] at hk
    refine x_toX ?_
    refine x_iret dX8_rank_25 rfl rfl ?_
    exact ⟨_, rfl, rfl, by omega, hk⟩
  · exact x_throw hst ex_133 dX8_rank_8 dX8_rank_11 dX8_rank_12 dX8_rank_15 (Nat.le_of_ble_eq_true rfl) (Nat.le_of_ble_eq_true rfl) (Nat.le_of_ble_eq_true rfl) (Nat.le_of_ble_eq_true rfl) (⟨rfl, by omega, rfl⟩)

set_option maxHeartbeats 600000 in
set_option maxRecDepth 100000 in
theorem c_X8_ranked (g : GG) (M : Mem) (k b : Int) (C : CR M) (hk : rg k) (b0 : b = 0 ∨ b = 1) (hst : g.1.stackTraces = false) : Ctx g yX8_ranked cX8_ranked 3 (some .int) 2 [rv g 0, iv k, iv b] M (pIP (fun z => (1 ≤ k ∧ k ≤ M 0 11) ∧ z = M (7 * b + 33) (k - 1)) M) (fun E M' => (E = "java/util/NoSuchElementException" ∧ (k < 1 ∨ M 0 11 < k) ∧ M' = M)) := by
  refine ctx_of (by decide +kernel) (Nat.le_of_ble_eq_true rfl) ?_
  show Ok g mX8_ranked (rmX 2) (FX g (pIP (fun z => (1 ≤ k ∧ k ≤ M 0 11) ∧ z = M (7 * b + 33) (k - 1)) M) (fun E M' => (E = "java/util/NoSuchElementException" ∧ (k < 1 ∨ M 0 11 < k) ∧ M' = M))) 0 [(0, rv g 0), (1, iv k), (2, iv b)] [] M
  have c0 := C.1
  have hk1 := hk.1
  have hk2 := hk.2
  refine x_iload_n 1 dX8_ranked_0 rfl rfl ?_
  refine x_iconst (1) dX8_ranked_1 rfl ?_
  refine x_aload_n 0 dX8_ranked_2 rfl rfl ?_
  refine x_geti (k := 11) (kI := 11) dX8_ranked_3 fl8_73 k_0 rfl rfl (fun ⟨a1, a1'⟩ => ?_)
  refine x_callSIP (as := [iv k, iv 1, iv (M 0 11)]) (rest := []) dX8_ranked_6 sl8_120 (c_X8_isWithin g M k 1 (M 0 11) ⟨by omega, by omega⟩ ⟨by omega, by omega⟩ ⟨by omega, by omega⟩) rfl rfl (Nat.le_of_ble_eq_true rfl) ⟨Nat.le_of_ble_eq_true rfl, Nat.le_of_ble_eq_true rfl⟩ (fun z2 h3 => ?_)
  refine x_if_ne (tgt := 20) dX8_ranked_9 (by decide) ⟨by omega, by omega⟩ (fun c5 => ?_) (fun c5 => ?_)
  · refine x_aload_n 0 dX8_ranked_20 rfl rfl ?_
    refine x_iload_n 2 dX8_ranked_21 rfl rfl ?_
    refine x_callVRP (as := [iv b]) (rest := []) dX8_ranked_22 vl8_276 k_0 (c_X8_boardOf g M b b0) rfl rfl (Nat.le_of_ble_eq_true rfl) ⟨Nat.le_of_ble_eq_true rfl, Nat.le_of_ble_eq_true rfl⟩ (fun z6 h7 => ?_)
    have ho := h7.1
    refine x_getr (k := 5) (d := 6) dX8_ranked_25 fl8_289 h7.2 rfl (fun k9 => ?_)
    refine x_iload_n 1 dX8_ranked_28 rfl rfl ?_
    refine x_iconst (1) dX8_ranked_29 rfl ?_
    refine x_isub dX8_ranked_30 ?_
    refine x_iald dX8_ranked_31 k9 (by omega) (by omega) (by decide) (fun ⟨a10, a10'⟩ => ?_)
    refine x_toX ?_
    refine x_iret dX8_ranked_32 rfl rfl ?_
    exact ⟨_, rfl, rfl, by omega, by rw [ho, show 7 * b + 27 + 6 = 7 * b + 33 by omega]⟩
  · exact x_throw hst ex_219 dX8_ranked_12 dX8_ranked_15 dX8_ranked_16 dX8_ranked_19 (Nat.le_of_ble_eq_true rfl) (Nat.le_of_ble_eq_true rfl) (Nat.le_of_ble_eq_true rfl) (Nat.le_of_ble_eq_true rfl) (⟨rfl, by omega, rfl⟩)

set_option maxHeartbeats 600000 in
set_option maxRecDepth 100000 in
theorem c_X8_waiting (g : GG) (M : Mem) (c k : Int) (q : Int → List Int) (hc : rg c) (hk : rg k) (hq : ∀ c, 0 ≤ c → c < 4 → QL M c (q c) ∧ (q c).length ≤ 40 ∧ ∀ x ∈ q c, 0 ≤ x ∧ x < 40) (hst : g.1.stackTraces = false) : Ctx g yX8_waiting cX8_waiting 3 (some .int) 2 [rv g 0, iv c, iv k] M (pIP (fun z => (0 ≤ c ∧ c ≤ 3) ∧ (0 ≤ k ∧ k < (q c).length) ∧ ∃ x, (q c)[k.toNat]? = some x ∧ z = x / 5) M) (fun E M' => (E = "java/lang/IllegalArgumentException" ∧ (c < 0 ∨ 3 < c) ∧ M' = M) ∨ (E = "java/util/NoSuchElementException" ∧ ((0 ≤ c ∧ c ≤ 3) ∧ (k < 0 ∨ (q c).length ≤ k)) ∧ M' = M)) := by
  refine ctx_of (by decide +kernel) (Nat.le_of_ble_eq_true rfl) ?_
  show Ok g mX8_waiting (rmX 2) (FX g (pIP (fun z => (0 ≤ c ∧ c ≤ 3) ∧ (0 ≤ k ∧ k < (q c).length) ∧ ∃ x, (q c)[k.toNat]? = some x ∧ z = x / 5) M) (fun E M' => (E = "java/lang/IllegalArgumentException" ∧ (c < 0 ∨ 3 < c) ∧ M' = M) ∨ (E = "java/util/NoSuchElementException" ∧ ((0 ≤ c ∧ c ≤ 3) ∧ (k < 0 ∨ (q c).length ≤ k)) ∧ M' = M))) 0 [(0, rv g 0), (1, iv c), (2, iv k)] [] M
  have hc1 := hc.1
  have hc2 := hc.2
  have hk1 := hk.1
  have hk2 := hk.2
  refine x_iload_n 1 dX8_waiting_0 rfl rfl ?_
  refine x_callSIP (as := [iv c]) (rest := []) dX8_waiting_1 sl8_117 (c_X8_isColour g M c ⟨by omega, by omega⟩) rfl rfl (Nat.le_of_ble_eq_true rfl) ⟨Nat.le_of_ble_eq_true rfl, Nat.le_of_ble_eq_true rfl⟩ (fun z1 h2 => ?_)
  refine x_if_ne (tgt := 15) dX8_waiting_4 (by decide) ⟨by omega, by omega⟩ (fun c4 => ?_) (fun c4 => ?_)
  · have hq9 := hq c (by omega) (by omega)
    have hq8 := hq9.1.1
    refine x_iload_n 2 dX8_waiting_15 rfl rfl ?_
    refine x_iconst (0) dX8_waiting_16 rfl ?_
    refine x_aload_n 0 dX8_waiting_17 rfl rfl ?_
    refine x_getr (k := 6) (d := 17) dX8_waiting_18 fl8_52 k_0 rfl (fun k5 => ?_)
    have k5 : isK 0 6 17 := k5
    show Ok g mX8_waiting (rmX 2) (FX g (pIP (fun z => (0 ≤ c ∧ c ≤ 3) ∧ (0 ≤ k ∧ k < (q c).length) ∧ ∃ x, (q c)[k.toNat]? = some x ∧ z = x / 5) M) (fun E M' => (E = "java/lang/IllegalArgumentException" ∧ (c < 0 ∨ 3 < c) ∧ M' = M) ∨ (E = "java/util/NoSuchElementException" ∧ ((0 ≤ c ∧ c ≤ 3) ∧ (k < 0 ∨ (q c).length ≤ k)) ∧ M' = M))) 21 [(0, rv g 0), (1, iv c), (2, iv k)] [rv g 17, iv 0, iv k] M
    refine x_getr (k := 2) (d := 7) dX8_waiting_21 fl8_247 k5 rfl (fun k6 => ?_)
    have k6 : isK 20 4 24 := k6
    show Ok g mX8_waiting (rmX 2) (FX g (pIP (fun z => (0 ≤ c ∧ c ≤ 3) ∧ (0 ≤ k ∧ k < (q c).length) ∧ ∃ x, (q c)[k.toNat]? = some x ∧ z = x / 5) M) (fun E M' => (E = "java/lang/IllegalArgumentException" ∧ (c < 0 ∨ 3 < c) ∧ M' = M) ∨ (E = "java/util/NoSuchElementException" ∧ ((0 ≤ c ∧ c ≤ 3) ∧ (k < 0 ∨ (q c).length ≤ k)) ∧ M' = M))) 24 [(0, rv g 0), (1, iv c), (2, iv k)] [rv g 24, iv 0, iv k] M
    refine x_iload_n 1 dX8_waiting_24 rfl rfl ?_
    refine x_iald dX8_waiting_25 k6 (by omega) (by omega) (by decide) (fun ⟨a7, a7'⟩ => ?_)
    refine x_iconst (1) dX8_waiting_26 rfl ?_
    refine x_isub dX8_waiting_27 ?_
    refine x_callSIP (as := [iv k, iv 0, iv ((M 24 c) - 1)]) (rest := []) dX8_waiting_28 sl8_120 (c_X8_isWithin g M k 0 ((M 24 c) - 1) ⟨by omega, by omega⟩ ⟨by omega, by omega⟩ ⟨by omega, by omega⟩) rfl rfl (Nat.le_of_ble_eq_true rfl) ⟨Nat.le_of_ble_eq_true rfl, Nat.le_of_ble_eq_true rfl⟩ (fun z8 h9 => ?_)
    refine x_if_ne (tgt := 42) dX8_waiting_31 (by decide) ⟨by omega, by omega⟩ (fun c11 => ?_) (fun c11 => ?_)
    · obtain ⟨x, x1, x2⟩ := hq9.1.at (s := k) (by omega) (by omega)
      have x3 := hq9.2.2 x (List.mem_of_getElem? x1)
      refine x_aload_n 0 dX8_waiting_42 rfl rfl ?_
      refine x_getr (k := 6) (d := 17) dX8_waiting_43 fl8_52 k_0 rfl (fun k12 => ?_)
      have k12 : isK 0 6 17 := k12
      show Ok g mX8_waiting (rmX 2) (FX g (pIP (fun z => (0 ≤ c ∧ c ≤ 3) ∧ (0 ≤ k ∧ k < (q c).length) ∧ ∃ x, (q c)[k.toNat]? = some x ∧ z = x / 5) M) (fun E M' => (E = "java/lang/IllegalArgumentException" ∧ (c < 0 ∨ 3 < c) ∧ M' = M) ∨ (E = "java/util/NoSuchElementException" ∧ ((0 ≤ c ∧ c ≤ 3) ∧ (k < 0 ∨ (q c).length ≤ k)) ∧ M' = M))) 46 [(0, rv g 0), (1, iv c), (2, iv k)] [rv g 17] M
      refine x_getr (k := 1) (d := 2) dX8_waiting_46 fl8_250 k12 rfl (fun k13 => ?_)
      have k13 : isK 33 4 19 := k13
      show Ok g mX8_waiting (rmX 2) (FX g (pIP (fun z => (0 ≤ c ∧ c ≤ 3) ∧ (0 ≤ k ∧ k < (q c).length) ∧ ∃ x, (q c)[k.toNat]? = some x ∧ z = x / 5) M) (fun E M' => (E = "java/lang/IllegalArgumentException" ∧ (c < 0 ∨ 3 < c) ∧ M' = M) ∨ (E = "java/util/NoSuchElementException" ∧ ((0 ≤ c ∧ c ≤ 3) ∧ (k < 0 ∨ (q c).length ≤ k)) ∧ M' = M))) 49 [(0, rv g 0), (1, iv c), (2, iv k)] [rv g 19] M
      refine x_iload_n 1 dX8_waiting_49 rfl rfl ?_
      refine x_aald33 dX8_waiting_50 k13 (by omega) (by omega) (by decide) (fun k14 => ?_)
      have ek14 : 19 + (1 + c) = c + 20 := by omega
      rw [ek14] at k14 ⊢
      refine x_iload_n 2 dX8_waiting_51 rfl rfl ?_
      refine x_iald dX8_waiting_52 k14 (by omega) (by omega) (by decide) (fun ⟨a15, a15'⟩ => ?_)
      refine x_callSIP (as := [iv (M (c + 20) k)]) (rest := []) dX8_waiting_53 sl8_254 (c_X8_teamOf g M (M (c + 20) k) (by omega)) rfl rfl (Nat.le_of_ble_eq_true rfl) ⟨Nat.le_of_ble_eq_true rfl, Nat.le_of_ble_eq_true rfl⟩ (fun z16 h17 => ?_)
      have hz := h17
      refine x_toX ?_
      refine x_iret dX8_waiting_56 rfl rfl ?_
      exact ⟨_, rfl, rfl, by omega, by omega, x, x1, by rw [hz]; omega⟩
    · exact x_throw hst ex_219 dX8_waiting_34 dX8_waiting_37 dX8_waiting_38 dX8_waiting_41 (Nat.le_of_ble_eq_true rfl) (Nat.le_of_ble_eq_true rfl) (Nat.le_of_ble_eq_true rfl) (Nat.le_of_ble_eq_true rfl) (Or.inr (⟨rfl, ⟨by omega, by omega⟩, rfl⟩))
  · exact x_throw hst ex_88 dX8_waiting_7 dX8_waiting_10 dX8_waiting_11 dX8_waiting_14 (Nat.le_of_ble_eq_true rfl) (Nat.le_of_ble_eq_true rfl) (Nat.le_of_ble_eq_true rfl) (Nat.le_of_ble_eq_true rfl) (Or.inl ⟨rfl, by omega, rfl⟩)
