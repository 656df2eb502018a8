set_option maxHeartbeats 600000 in
set_option maxRecDepth 100000 in
theorem c_X8_step (g : GG) (M : Mem) (l a d : Int) (hl : 0 ≤ l ∧ l < 65536) (ha : rg a) (hd : rg d) (hn : 0 ≤ M 1 3 ∧ M 1 3 ≤ 20) (hst : g.1.stackTraces = false) : Ctx g yX8_step cX8_step 4 (some .int) 3 [rv g 0, iv l, iv a, iv d] M (pI (fun z M' => SOK l a d ∧ M 1 3 < 20 ∧ z = M 1 3 + 1 ∧ M' = up (up (up (up M 2 (M 1 3) l) 3 (M 1 3) a) 4 (M 1 3) d) 1 3 (M 1 3 + 1))) (fun E M' => (E = "java/lang/IllegalArgumentException" ∧ (¬ SOK l a d) ∧ M' = M) ∨ (E = "java/lang/IllegalStateException" ∧ (SOK l a d ∧ M 1 3 = 20) ∧ M' = M)) := by
  refine ctx_of (by decide +kernel) (Nat.le_of_ble_eq_true rfl) ?_
  show Ok g mX8_step (rmX 3) (FX g (pI (fun z M' => SOK l a d ∧ M 1 3 < 20 ∧ z = M 1 3 + 1 ∧ M' = up (up (up (up M 2 (M 1 3) l) 3 (M 1 3) a) 4 (M 1 3) d) 1 3 (M 1 3 + 1))) (fun E M' => (E = "java/lang/IllegalArgumentException" ∧ (¬ SOK l a d) ∧ M' = M) ∨ (E = "java/lang/IllegalStateException" ∧ (SOK l a d ∧ M 1 3 = 20) ∧ M' = M))) 0 [(0, rv g 0), (1, iv l), (2, iv a), (3, iv d)] [] M
  have ha1 := ha.1
  have ha2 := ha.2
  have hd1 := hd.1
  have hd2 := hd.2
  have hl1 := hl.1
  have hl2 := hl.2
  refine x_iload_n 1 dX8_step_0 rfl rfl ?_
  refine x_iload_n 2 dX8_step_1 rfl rfl ?_
  refine x_iload_n 3 dX8_step_2 rfl rfl ?_
  refine x_callSIP (as := [iv l, iv a, iv d]) (rest := []) dX8_step_3 sl8_84 (c_X8_isStep g M l a d hl ⟨by omega, by omega⟩ ⟨by omega, by omega⟩) rfl rfl (Nat.le_of_ble_eq_true rfl) ⟨Nat.le_of_ble_eq_true rfl, Nat.le_of_ble_eq_true rfl⟩ (fun z1 h2 => ?_)
  have hS := h2
  refine x_if_ne (tgt := 17) dX8_step_6 (by decide) ⟨by omega, by omega⟩ (fun c4 => ?_) (fun c4 => ?_)
  · refine x_aload_n 0 dX8_step_17 rfl rfl ?_
    refine x_getr (k := 0) (d := 1) dX8_step_18 fl8_12 k_0 rfl (fun k5 => ?_)
    have k5 : isK 5 4 1 := k5
    show Ok g mX8_step (rmX 3) (FX g (pI (fun z M' => SOK l a d ∧ M 1 3 < 20 ∧ z = M 1 3 + 1 ∧ M' = up (up (up (up M 2 (M 1 3) l) 3 (M 1 3) a) 4 (M 1 3) d) 1 3 (M 1 3 + 1))) (fun E M' => (E = "java/lang/IllegalArgumentException" ∧ (¬ SOK l a d) ∧ M' = M) ∨ (E = "java/lang/IllegalStateException" ∧ (SOK l a d ∧ M 1 3 = 20) ∧ M' = M))) 21 [(0, rv g 0), (1, iv l), (2, iv a), (3, iv d)] [rv g 1] M
    refine x_geti (k := 3) (kI := 3) dX8_step_21 fl8_91 k5 rfl rfl (fun ⟨a6, a6'⟩ => ?_)
    refine x_bipush (20) dX8_step_24 rfl ?_
    refine x_icmp_lt (tgt := 37) dX8_step_26 (by decide) ⟨by omega, by omega⟩ ⟨by decide, by decide⟩ (fun c7 => ?_) (fun c7 => ?_)
    · refine x_aload_n 0 dX8_step_37 rfl rfl ?_
      refine x_getr (k := 0) (d := 1) dX8_step_38 fl8_12 k_0 rfl (fun k8 => ?_)
      have k8 : isK 5 4 1 := k8
      show Ok g mX8_step (rmX 3) (FX g (pI (fun z M' => SOK l a d ∧ M 1 3 < 20 ∧ z = M 1 3 + 1 ∧ M' = up (up (up (up M 2 (M 1 3) l) 3 (M 1 3) a) 4 (M 1 3) d) 1 3 (M 1 3 + 1))) (fun E M' => (E = "java/lang/IllegalArgumentException" ∧ (¬ SOK l a d) ∧ M' = M) ∨ (E = "java/lang/IllegalStateException" ∧ (SOK l a d ∧ M 1 3 = 20) ∧ M' = M))) 41 [(0, rv g 0), (1, iv l), (2, iv a), (3, iv d)] [rv g 1] M
      refine x_iload_n 1 dX8_step_41 rfl rfl ?_
      refine x_iload_n 2 dX8_step_42 rfl rfl ?_
      refine x_iload_n 3 dX8_step_43 rfl rfl ?_
      refine x_callVV (as := [iv l, iv a, iv d]) (rest := []) dX8_step_44 vl8_97 k8 (c_X5_append g M 1 l a d k_1 hl ⟨by omega, by omega⟩ ⟨by omega, by omega⟩ ⟨by omega, by omega⟩) rfl rfl (Nat.le_of_ble_eq_true rfl) ⟨Nat.le_of_ble_eq_true rfl, Nat.le_of_ble_eq_true rfl⟩ (fun M11 h10 => ?_)
      have hx : M11 = up (up (up (up M 2 (M 1 3) l) 3 (M 1 3) a) 4 (M 1 3) d) 1 3 (M 1 3 + 1) := h10
      refine x_aload_n 0 dX8_step_47 rfl rfl ?_
      refine x_getr (k := 0) (d := 1) dX8_step_48 fl8_12 k_0 rfl (fun k12 => ?_)
      have k12 : isK 5 4 1 := k12
      show Ok g mX8_step (rmX 3) (FX g (pI (fun z M' => SOK l a d ∧ M 1 3 < 20 ∧ z = M 1 3 + 1 ∧ M' = up (up (up (up M 2 (M 1 3) l) 3 (M 1 3) a) 4 (M 1 3) d) 1 3 (M 1 3 + 1))) (fun E M' => (E = "java/lang/IllegalArgumentException" ∧ (¬ SOK l a d) ∧ M' = M) ∨ (E = "java/lang/IllegalStateException" ∧ (SOK l a d ∧ M 1 3 = 20) ∧ M' = M))) 51 [(0, rv g 0), (1, iv l), (2, iv a), (3, iv d)] [rv g 1] M11
      refine x_geti (k := 3) (kI := 3) dX8_step_51 fl8_91 k12 rfl rfl (fun ⟨a13, a13'⟩ => ?_)
      refine x_toX ?_
      refine x_iret dX8_step_54 rfl rfl ?_
      exact ⟨_, rfl, by rcases hS with ⟨_, e⟩ | ⟨e, _⟩; exact e; omega, by omega, by rw [hx, up_s], hx⟩
    · exact x_throw hst ex_94 dX8_step_29 dX8_step_32 dX8_step_33 dX8_step_36 (Nat.le_of_ble_eq_true rfl) (Nat.le_of_ble_eq_true rfl) (Nat.le_of_ble_eq_true rfl) (Nat.le_of_ble_eq_true rfl) (Or.inr (⟨rfl, ⟨by rcases hS with ⟨_, e⟩ | ⟨e, _⟩; exact e; omega, by omega⟩, rfl⟩))
  · exact x_throw hst ex_88 dX8_step_9 dX8_step_12 dX8_step_13 dX8_step_16 (Nat.le_of_ble_eq_true rfl) (Nat.le_of_ble_eq_true rfl) (Nat.le_of_ble_eq_true rfl) (Nat.le_of_ble_eq_true rfl) (Or.inl ⟨rfl, by rcases hS with ⟨e, _⟩ | ⟨_, e⟩; omega; exact e, rfl⟩)

set_option maxHeartbeats 600000 in
set_option maxRecDepth 100000 in
theorem c_X8_number (g : GG) (M : Mem) (v b : Int) (hv : rg v) (b0 : b = 0 ∨ b = 1) (hr : 0 ≤ M 5 2 ∧ M 5 2 ≤ 4 ∧ 0 ≤ M 5 3 ∧ M 5 3 ≤ 6) (hst : g.1.stackTraces = false) : Ctx g yX8_number cX8_number 3 (some .int) 3 [rv g 0, iv v, iv b] M (pI (fun z M' => (-999 ≤ v ∧ v ≤ 999) ∧ ((b = 1 ∧ M 5 3 < 6 ∧ z = M 5 3 + 1 ∧ M' = up (up M 7 (M 5 3) v) 5 3 (M 5 3 + 1)) ∨ (b = 0 ∧ M 5 2 < 4 ∧ z = M 5 2 + 1 ∧ M' = up (up M 6 (M 5 2) v) 5 2 (M 5 2 + 1))))) (fun E M' => (E = "java/lang/IllegalArgumentException" ∧ (v < -999 ∨ 999 < v) ∧ M' = M) ∨ (E = "java/lang/IllegalStateException" ∧ ((-999 ≤ v ∧ v ≤ 999) ∧ ((b = 1 ∧ M 5 3 = 6) ∨ (b = 0 ∧ M 5 2 = 4))) ∧ M' = M)) := by
  refine ctx_of (by decide +kernel) (Nat.le_of_ble_eq_true rfl) ?_
  show Ok g mX8_number (rmX 3) (FX g (pI (fun z M' => (-999 ≤ v ∧ v ≤ 999) ∧ ((b = 1 ∧ M 5 3 < 6 ∧ z = M 5 3 + 1 ∧ M' = up (up M 7 (M 5 3) v) 5 3 (M 5 3 + 1)) ∨ (b = 0 ∧ M 5 2 < 4 ∧ z = M 5 2 + 1 ∧ M' = up (up M 6 (M 5 2) v) 5 2 (M 5 2 + 1))))) (fun E M' => (E = "java/lang/IllegalArgumentException" ∧ (v < -999 ∨ 999 < v) ∧ M' = M) ∨ (E = "java/lang/IllegalStateException" ∧ ((-999 ≤ v ∧ v ≤ 999) ∧ ((b = 1 ∧ M 5 3 = 6) ∨ (b = 0 ∧ M 5 2 = 4))) ∧ M' = M))) 0 [(0, rv g 0), (1, iv v), (2, iv b)] [] M
  have hv1 := hv.1
  have hv2 := hv.2
  refine x_iload_n 1 dX8_number_0 rfl rfl ?_
  refine x_callSIP (as := [iv v]) (rest := []) dX8_number_1 sl8_101 (c_X8_isNumber g M v ⟨by omega, by omega⟩) rfl rfl (Nat.le_of_ble_eq_true rfl) ⟨Nat.le_of_ble_eq_true rfl, Nat.le_of_ble_eq_true rfl⟩ (fun z1 h2 => ?_)
  refine x_if_ne (tgt := 15) dX8_number_4 (by decide) ⟨by omega, by omega⟩ (fun c4 => ?_) (fun c4 => ?_)
  · refine x_aload_n 0 dX8_number_15 rfl rfl ?_
    refine x_getr (k := 1) (d := 5) dX8_number_16 fl8_19 k_0 rfl (fun k5 => ?_)
    have k5 : isK 3 4 5 := k5
    show Ok g mX8_number (rmX 3) (FX g (pI (fun z M' => (-999 ≤ v ∧ v ≤ 999) ∧ ((b = 1 ∧ M 5 3 < 6 ∧ z = M 5 3 + 1 ∧ M' = up (up M 7 (M 5 3) v) 5 3 (M 5 3 + 1)) ∨ (b = 0 ∧ M 5 2 < 4 ∧ z = M 5 2 + 1 ∧ M' = up (up M 6 (M 5 2) v) 5 2 (M 5 2 + 1))))) (fun E M' => (E = "java/lang/IllegalArgumentException" ∧ (v < -999 ∨ 999 < v) ∧ M' = M) ∨ (E = "java/lang/IllegalStateException" ∧ ((-999 ≤ v ∧ v ≤ 999) ∧ ((b = 1 ∧ M 5 3 = 6) ∨ (b = 0 ∧ M 5 2 = 4))) ∧ M' = M))) 19 [(0, rv g 0), (1, iv v), (2, iv b)] [rv g 5] M
    refine x_iload_n 2 dX8_number_19 rfl rfl ?_
    refine x_callVIP (as := [iv b]) (rest := []) dX8_number_20 vl8_105 k5 (c_X3_hasRoom g M 5 b k_5 b0) rfl rfl (Nat.le_of_ble_eq_true rfl) ⟨Nat.le_of_ble_eq_true rfl, Nat.le_of_ble_eq_true rfl⟩ (fun z6 h7 => ?_)
    have hm := h7
    refine x_if_ne (tgt := 34) dX8_number_23 (by decide) ⟨by omega, by omega⟩ (fun c9 => ?_) (fun c9 => ?_)
    · refine x_aload_n 0 dX8_number_34 rfl rfl ?_
      refine x_getr (k := 1) (d := 5) dX8_number_35 fl8_19 k_0 rfl (fun k10 => ?_)
      have k10 : isK 3 4 5 := k10
      show Ok g mX8_number (rmX 3) (FX g (pI (fun z M' => (-999 ≤ v ∧ v ≤ 999) ∧ ((b = 1 ∧ M 5 3 < 6 ∧ z = M 5 3 + 1 ∧ M' = up (up M 7 (M 5 3) v) 5 3 (M 5 3 + 1)) ∨ (b = 0 ∧ M 5 2 < 4 ∧ z = M 5 2 + 1 ∧ M' = up (up M 6 (M 5 2) v) 5 2 (M 5 2 + 1))))) (fun E M' => (E = "java/lang/IllegalArgumentException" ∧ (v < -999 ∨ 999 < v) ∧ M' = M) ∨ (E = "java/lang/IllegalStateException" ∧ ((-999 ≤ v ∧ v ≤ 999) ∧ ((b = 1 ∧ M 5 3 = 6) ∨ (b = 0 ∧ M 5 2 = 4))) ∧ M' = M))) 38 [(0, rv g 0), (1, iv v), (2, iv b)] [rv g 5] M
      refine x_iload_n 1 dX8_number_38 rfl rfl ?_
      refine x_iload_n 2 dX8_number_39 rfl rfl ?_
      refine x_callVI (as := [iv v, iv b]) (rest := []) dX8_number_40 vl8_109 k10 (c_X3_append g M 5 v b k_5 ⟨by omega, by omega⟩ (by omega)) rfl rfl (Nat.le_of_ble_eq_true rfl) ⟨Nat.le_of_ble_eq_true rfl, Nat.le_of_ble_eq_true rfl⟩ (fun z11 M13 h12 => ?_)
      have hx : (b = 1 ∧ z11 = M 5 3 + 1 ∧ M13 = up (up M 7 (M 5 3) v) 5 3 (M 5 3 + 1)) ∨ (b = 0 ∧ z11 = M 5 2 + 1 ∧ M13 = up (up M 6 (M 5 2) v) 5 2 (M 5 2 + 1)) := h12
      refine x_toX ?_
      refine x_iret dX8_number_43 rfl rfl ?_
      rcases hx with ⟨x1, x2, x3⟩ | ⟨x1, x2, x3⟩
      · exact ⟨_, rfl, by omega, Or.inl ⟨x1, by omega, x2, x3⟩⟩
      · exact ⟨_, rfl, by omega, Or.inr ⟨x1, by omega, x2, x3⟩⟩
    · exact x_throw hst ex_94 dX8_number_26 dX8_number_29 dX8_number_30 dX8_number_33 (Nat.le_of_ble_eq_true rfl) (Nat.le_of_ble_eq_true rfl) (Nat.le_of_ble_eq_true rfl) (Nat.le_of_ble_eq_true rfl) (Or.inr (⟨rfl, ⟨by omega, by omega⟩, rfl⟩))
  · exact x_throw hst ex_88 dX8_number_7 dX8_number_10 dX8_number_11 dX8_number_14 (Nat.le_of_ble_eq_true rfl) (Nat.le_of_ble_eq_true rfl) (Nat.le_of_ble_eq_true rfl) (Nat.le_of_ble_eq_true rfl) (Or.inl ⟨rfl, by omega, rfl⟩)

set_option maxHeartbeats 600000 in
set_option maxRecDepth 100000 in
theorem c_X8_problem (g : GG) (M : Mem) (c l : Int) (C : CR M) (hc : rg c) (hl : rg l) (hst : g.1.stackTraces = false) : Ctx g yX8_problem cX8_problem 3 (some .int) 2 [rv g 0, iv c, iv l] M (pI (fun z M' => ((0 ≤ c ∧ c ≤ 3) ∧ 1 ≤ l ∧ l ≤ 400) ∧ M 0 10 < 5 ∧ z = M 0 10 ∧ M' = up (up (up M (20 * M 0 10 + 48) 1 c) (20 * M 0 10 + 48) 2 l) 0 10 (M 0 10 + 1))) (fun E M' => (E = "java/lang/IllegalArgumentException" ∧ (¬ ((0 ≤ c ∧ c ≤ 3) ∧ 1 ≤ l ∧ l ≤ 400)) ∧ M' = M) ∨ (E = "java/lang/IllegalStateException" ∧ (((0 ≤ c ∧ c ≤ 3) ∧ 1 ≤ l ∧ l ≤ 400) ∧ M 0 10 = 5) ∧ M' = M)) := by
  refine ctx_of (by decide +kernel) (Nat.le_of_ble_eq_true rfl) ?_
  show Ok g mX8_problem (rmX 2) (FX g (pI (fun z M' => ((0 ≤ c ∧ c ≤ 3) ∧ 1 ≤ l ∧ l ≤ 400) ∧ M 0 10 < 5 ∧ z = M 0 10 ∧ M' = up (up (up M (20 * M 0 10 + 48) 1 c) (20 * M 0 10 + 48) 2 l) 0 10 (M 0 10 + 1))) (fun E M' => (E = "java/lang/IllegalArgumentException" ∧ (¬ ((0 ≤ c ∧ c ≤ 3) ∧ 1 ≤ l ∧ l ≤ 400)) ∧ M' = M) ∨ (E = "java/lang/IllegalStateException" ∧ (((0 ≤ c ∧ c ≤ 3) ∧ 1 ≤ l ∧ l ≤ 400) ∧ M 0 10 = 5) ∧ M' = M))) 0 [(0, rv g 0), (1, iv c), (2, iv l)] [] M
  have c0 := C.1
  have hc1 := hc.1
  have hc2 := hc.2
  have hl1 := hl.1
  have hl2 := hl.2
  refine x_iload_n 1 dX8_problem_0 rfl rfl ?_
  refine x_callSIP (as := [iv c]) (rest := []) dX8_problem_1 sl8_117 (c_X8_isColour g M c ⟨by omega, by omega⟩) rfl rfl (Nat.le_of_ble_eq_true rfl) ⟨Nat.le_of_ble_eq_true rfl, Nat.le_of_ble_eq_true rfl⟩ (fun z1 h2 => ?_)
  refine x_if_eq (tgt := 18) dX8_problem_4 (by decide) ⟨by omega, by omega⟩ (fun c4 => ?_) (fun c4 => ?_)
  · exact x_throw hst ex_88 dX8_problem_18 dX8_problem_21 dX8_problem_22 dX8_problem_25 (Nat.le_of_ble_eq_true rfl) (Nat.le_of_ble_eq_true rfl) (Nat.le_of_ble_eq_true rfl) (Nat.le_of_ble_eq_true rfl) (Or.inl ⟨rfl, by omega, rfl⟩)
  · refine x_iload_n 2 dX8_problem_7 rfl rfl ?_
    refine x_iconst (1) dX8_problem_8 rfl ?_
    refine x_sipush (400) dX8_problem_9 rfl ?_
    refine x_callSIP (as := [iv l, iv 1, iv 400]) (rest := []) dX8_problem_12 sl8_120 (c_X8_isWithin g M l 1 400 ⟨by omega, by omega⟩ ⟨by omega, by omega⟩ ⟨by omega, by omega⟩) rfl rfl (Nat.le_of_ble_eq_true rfl) ⟨Nat.le_of_ble_eq_true rfl, Nat.le_of_ble_eq_true rfl⟩ (fun z5 h6 => ?_)
    refine x_if_ne (tgt := 26) dX8_problem_15 (by decide) ⟨by omega, by omega⟩ (fun c8 => ?_) (fun c8 => ?_)
    · refine x_aload_n 0 dX8_problem_26 rfl rfl ?_
      refine x_geti (k := 10) (kI := 10) dX8_problem_27 fl8_69 k_0 rfl rfl (fun ⟨a9, a9'⟩ => ?_)
      refine x_iconst (5) dX8_problem_30 rfl ?_
      refine x_icmp_lt (tgt := 42) dX8_problem_31 (by decide) ⟨by omega, by omega⟩ ⟨by decide, by decide⟩ (fun c10 => ?_) (fun c10 => ?_)
      · refine x_aload_n 0 dX8_problem_42 rfl rfl ?_
        refine x_getr (k := 2) (d := 8) dX8_problem_43 fl8_25 k_0 rfl (fun k11 => ?_)
        have k11 : isK 30 5 8 := k11
        show Ok g mX8_problem (rmX 2) (FX g (pI (fun z M' => ((0 ≤ c ∧ c ≤ 3) ∧ 1 ≤ l ∧ l ≤ 400) ∧ M 0 10 < 5 ∧ z = M 0 10 ∧ M' = up (up (up M (20 * M 0 10 + 48) 1 c) (20 * M 0 10 + 48) 2 l) 0 10 (M 0 10 + 1))) (fun E M' => (E = "java/lang/IllegalArgumentException" ∧ (¬ ((0 ≤ c ∧ c ≤ 3) ∧ 1 ≤ l ∧ l ≤ 400)) ∧ M' = M) ∨ (E = "java/lang/IllegalStateException" ∧ (((0 ≤ c ∧ c ≤ 3) ∧ 1 ≤ l ∧ l ≤ 400) ∧ M 0 10 = 5) ∧ M' = M))) 46 [(0, rv g 0), (1, iv c), (2, iv l)] [rv g 8] M
        refine x_aload_n 0 dX8_problem_46 rfl rfl ?_
        refine x_geti (k := 10) (kI := 10) dX8_problem_47 fl8_69 k_0 rfl rfl (fun ⟨a12, a12'⟩ => ?_)
        refine x_aald30 dX8_problem_50 k11 (by omega) (by omega) (by decide) (fun k13 => ?_)
        have ek13 : 8 + (40 + 20 * (M 0 10)) = 20 * M 0 10 + 48 := by omega
        rw [ek13] at k13 ⊢
        refine x_iload_n 1 dX8_problem_51 rfl rfl ?_
        refine x_puti (k := 1) (kI := 1) dX8_problem_52 fw8_124 k13 rfl ⟨by omega, by omega⟩ rfl rfl rfl ?_
        refine x_aload_n 0 dX8_problem_55 rfl rfl ?_
        refine x_getr (k := 2) (d := 8) dX8_problem_56 fl8_25 k_0 rfl (fun k14 => ?_)
        have k14 : isK 30 5 8 := k14
        show Ok g mX8_problem (rmX 2) (FX g (pI (fun z M' => ((0 ≤ c ∧ c ≤ 3) ∧ 1 ≤ l ∧ l ≤ 400) ∧ M 0 10 < 5 ∧ z = M 0 10 ∧ M' = up (up (up M (20 * M 0 10 + 48) 1 c) (20 * M 0 10 + 48) 2 l) 0 10 (M 0 10 + 1))) (fun E M' => (E = "java/lang/IllegalArgumentException" ∧ (¬ ((0 ≤ c ∧ c ≤ 3) ∧ 1 ≤ l ∧ l ≤ 400)) ∧ M' = M) ∨ (E = "java/lang/IllegalStateException" ∧ (((0 ≤ c ∧ c ≤ 3) ∧ 1 ≤ l ∧ l ≤ 400) ∧ M 0 10 = 5) ∧ M' = M))) 59 [(0, rv g 0), (1, iv c), (2, iv l)] [rv g 8] (up M (20 * M 0 10 + 48) 1 c)
        refine x_aload_n 0 dX8_problem_59 rfl rfl ?_
        refine x_geti (k := 10) (kI := 10) dX8_problem_60 fl8_69 k_0 rfl rfl (fun ⟨a15, a15'⟩ => ?_)
        have e16 : (up M (20 * M 0 10 + 48) 1 c) 0 10 = M 0 10 := (by simp (disch := omega) only [up_s, up_o, up_k])
        simp only [e16] at a15 a15' ⊢
        refine x_aald30 dX8_problem_63 k14 (by omega) (by omega) (by decide) (fun k17 => ?_)
        have ek17 : 8 + (40 + 20 * (M 0 10)) = 20 * M 0 10 + 48 := by omega
        rw [ek17] at k17 ⊢
        refine x_iload_n 2 dX8_problem_64 rfl rfl ?_
        refine x_puti (k := 2) (kI := 2) dX8_problem_65 fw8_127 k17 rfl ⟨by omega, by omega⟩ rfl rfl rfl ?_
        refine x_aload_n 0 dX8_problem_68 rfl rfl ?_
        refine x_dup dX8_problem_69 rfl ?_
        refine x_geti (k := 10) (kI := 10) dX8_problem_70 fl8_69 k_0 rfl rfl (fun ⟨a18, a18'⟩ => ?_)
        have e19 : (up (up M (20 * M 0 10 + 48) 1 c) (20 * M 0 10 + 48) 2 l) 0 10 = M 0 10 := (by simp (disch := omega) only [up_s, up_o, up_k])
        simp only [e19] at a18 a18' ⊢
        refine x_iconst (1) dX8_problem_73 rfl ?_
        refine x_iadd dX8_problem_74 ?_
        refine x_puti (k := 10) (kI := 10) dX8_problem_75 fw8_69 k_0 rfl ⟨by omega, by omega⟩ rfl rfl rfl ?_
        refine x_aload_n 0 dX8_problem_78 rfl rfl ?_
        refine x_geti (k := 10) (kI := 10) dX8_problem_79 fl8_69 k_0 rfl rfl (fun ⟨a20, a20'⟩ => ?_)
        have e21 : (up (up (up M (20 * M 0 10 + 48) 1 c) (20 * M 0 10 + 48) 2 l) 0 10 ((M 0 10) + 1)) 0 10 = (M 0 10) + 1 := (by simp (disch := omega) only [up_s, up_o, up_k])
        simp only [e21] at a20 a20' ⊢
        refine x_iconst (1) dX8_problem_82 rfl ?_
        refine x_isub dX8_problem_83 ?_
        refine x_toX ?_
        refine x_iret dX8_problem_84 rfl rfl ?_
        exact ⟨_, rfl, by omega, by omega, by omega, rfl⟩
      · exact x_throw hst ex_94 dX8_problem_34 dX8_problem_37 dX8_problem_38 dX8_problem_41 (Nat.le_of_ble_eq_true rfl) (Nat.le_of_ble_eq_true rfl) (Nat.le_of_ble_eq_true rfl) (Nat.le_of_ble_eq_true rfl) (Or.inr (⟨rfl, ⟨by omega, by omega⟩, rfl⟩))
    · exact x_throw hst ex_88 dX8_problem_18 dX8_problem_21 dX8_problem_22 dX8_problem_25 (Nat.le_of_ble_eq_true rfl) (Nat.le_of_ble_eq_true rfl) (Nat.le_of_ble_eq_true rfl) (Nat.le_of_ble_eq_true rfl) (Or.inl ⟨rfl, by omega, rfl⟩)

set_option maxHeartbeats 600000 in
set_option maxRecDepth 100000 in
theorem c_X8_team (g : GG) (M : Mem)  (C : CR M) (hst : g.1.stackTraces = false) : Ctx g yX8_team cX8_team 1 (some .int) 4 [rv g 0] M (pI (fun z M' => M 0 11 < 8 ∧ z = M 0 11 ∧ (∀ a k, ¬ (27 ≤ a ∧ a ≤ 40) → M' a k = up M 0 11 (M 0 11 + 1) a k) ∧ BOK M' 27 0 ∧ BOK M' 34 1)) (fun E M' => (E = "java/lang/IllegalStateException" ∧ (M 0 11 = 8) ∧ M' = M)) := by
  refine ctx_of (by decide +kernel) (Nat.le_of_ble_eq_true rfl) ?_
  show Ok g mX8_team (rmX 4) (FX g (pI (fun z M' => M 0 11 < 8 ∧ z = M 0 11 ∧ (∀ a k, ¬ (27 ≤ a ∧ a ≤ 40) → M' a k = up M 0 11 (M 0 11 + 1) a k) ∧ BOK M' 27 0 ∧ BOK M' 34 1)) (fun E M' => (E = "java/lang/IllegalStateException" ∧ (M 0 11 = 8) ∧ M' = M))) 0 [(0, rv g 0)] [] M
  have c0 := C.1
  refine x_aload_n 0 dX8_team_0 rfl rfl ?_
  refine x_geti (k := 11) (kI := 11) dX8_team_1 fl8_73 k_0 rfl rfl (fun ⟨a1, a1'⟩ => ?_)
  refine x_bipush (8) dX8_team_4 rfl ?_
  refine x_icmp_lt (tgt := 17) dX8_team_6 (by decide) ⟨by omega, by omega⟩ ⟨by decide, by decide⟩ (fun c2 => ?_) (fun c2 => ?_)
  · refine x_aload_n 0 dX8_team_17 rfl rfl ?_
    refine x_dup dX8_team_18 rfl ?_
    refine x_geti (k := 11) (kI := 11) dX8_team_19 fl8_73 k_0 rfl rfl (fun ⟨a3, a3'⟩ => ?_)
    refine x_iconst (1) dX8_team_22 rfl ?_
    refine x_iadd dX8_team_23 ?_
    refine x_puti (k := 11) (kI := 11) dX8_team_24 fw8_73 k_0 rfl ⟨by omega, by omega⟩ rfl rfl rfl ?_
    refine x_aload_n 0 dX8_team_27 rfl rfl ?_
    refine x_callVV (as := []) (rest := []) dX8_team_28 vl8_154 k_0 (c_X8_recountBoards g (up M 0 11 ((M 0 11) + 1)) (C.team (by omega))) rfl rfl (Nat.le_of_ble_eq_true rfl) ⟨Nat.le_of_ble_eq_true rfl, Nat.le_of_ble_eq_true rfl⟩ (fun M6 h5 => ?_)
    have hr := h5
    have hr11 : M6 0 11 = M 0 11 + 1 := (hr.1 0 11 (by omega)).trans (up_s _ _ _ _)
    refine x_aload_n 0 dX8_team_31 rfl rfl ?_
    refine x_geti (k := 11) (kI := 11) dX8_team_32 fl8_73 k_0 rfl rfl (fun ⟨a7, a7'⟩ => ?_)
    have e8 : M6 0 11 = M 0 11 + 1 := hr11
    simp only [e8] at a7 a7' ⊢
    refine x_iconst (1) dX8_team_35 rfl ?_
    refine x_isub dX8_team_36 ?_
    refine x_toX ?_
    refine x_iret dX8_team_37 rfl rfl ?_
    exact ⟨_, rfl, by omega, by omega, hr.1, hr.2.1, hr.2.2⟩
  · exact x_throw hst ex_94 dX8_team_9 dX8_team_12 dX8_team_13 dX8_team_16 (Nat.le_of_ble_eq_true rfl) (Nat.le_of_ble_eq_true rfl) (Nat.le_of_ble_eq_true rfl) (Nat.le_of_ble_eq_true rfl) (⟨rfl, by omega, rfl⟩)

set_option maxHeartbeats 600000 in
set_option maxRecDepth 100000 in
theorem c_X8_stock (g : GG) (M : Mem) (c m : Int) (b : Int → BSt) (hc : rg c) (hm : rg m) (hb : ∀ c, 0 ≤ c → c < 4 → RAb M c (b c) ∧ QS 900000 (b c)) (hst : g.1.stackTraces = false) : Ctx g yX8_stock cX8_stock 3 (some .int) 2 [rv g 0, iv c, iv m] M (pI (fun z M' => ((0 ≤ c ∧ c ≤ 3) ∧ 1 ≤ m ∧ m ≤ 20) ∧ z = M' 25 c ∧ FRb (up M 25 c (M 25 c + m)) c M' ∧ RAb M' c (SVo ((b c).1, (b c).2.1, (b c).2.2.1 + m, (b c).2.2.2.1, (b c).2.2.2.2)))) (fun E M' => (E = "java/lang/IllegalArgumentException" ∧ (¬ ((0 ≤ c ∧ c ≤ 3) ∧ 1 ≤ m ∧ m ≤ 20)) ∧ M' = M)) := by
  refine ctx_of (by decide +kernel) (Nat.le_of_ble_eq_true rfl) ?_
  show Ok g mX8_stock (rmX 2) (FX g (pI (fun z M' => ((0 ≤ c ∧ c ≤ 3) ∧ 1 ≤ m ∧ m ≤ 20) ∧ z = M' 25 c ∧ FRb (up M 25 c (M 25 c + m)) c M' ∧ RAb M' c (SVo ((b c).1, (b c).2.1, (b c).2.2.1 + m, (b c).2.2.2.1, (b c).2.2.2.2)))) (fun E M' => (E = "java/lang/IllegalArgumentException" ∧ (¬ ((0 ≤ c ∧ c ≤ 3) ∧ 1 ≤ m ∧ m ≤ 20)) ∧ M' = M))) 0 [(0, rv g 0), (1, iv c), (2, iv m)] [] M
  have hc1 := hc.1
  have hc2 := hc.2
  have hm1 := hm.1
  have hm2 := hm.2
  refine x_iload_n 1 dX8_stock_0 rfl rfl ?_
  refine x_callSIP (as := [iv c]) (rest := []) dX8_stock_1 sl8_117 (c_X8_isColour g M c ⟨by omega, by omega⟩) rfl rfl (Nat.le_of_ble_eq_true rfl) ⟨Nat.le_of_ble_eq_true rfl, Nat.le_of_ble_eq_true rfl⟩ (fun z1 h2 => ?_)
  refine x_if_eq (tgt := 17) dX8_stock_4 (by decide) ⟨by omega, by omega⟩ (fun c4 => ?_) (fun c4 => ?_)
  · exact x_throw hst ex_88 dX8_stock_17 dX8_stock_20 dX8_stock_21 dX8_stock_24 (Nat.le_of_ble_eq_true rfl) (Nat.le_of_ble_eq_true rfl) (Nat.le_of_ble_eq_true rfl) (Nat.le_of_ble_eq_true rfl) (⟨rfl, by omega, rfl⟩)
  · refine x_iload_n 2 dX8_stock_7 rfl rfl ?_
    refine x_iconst (1) dX8_stock_8 rfl ?_
    refine x_bipush (20) dX8_stock_9 rfl ?_
    refine x_callSIP (as := [iv m, iv 1, iv 20]) (rest := []) dX8_stock_11 sl8_120 (c_X8_isWithin g M m 1 20 ⟨by omega, by omega⟩ ⟨by omega, by omega⟩ ⟨by omega, by omega⟩) rfl rfl (Nat.le_of_ble_eq_true rfl) ⟨Nat.le_of_ble_eq_true rfl, Nat.le_of_ble_eq_true rfl⟩ (fun z5 h6 => ?_)
    refine x_if_ne (tgt := 25) dX8_stock_14 (by decide) ⟨by omega, by omega⟩ (fun c8 => ?_) (fun c8 => ?_)
    · have hb9 := hb c (by omega) (by omega)
      have hd9 := hb9.2.2.1.1
      have hd8 := hb9.1.2.2.1
      refine x_aload_n 0 dX8_stock_25 rfl rfl ?_
      refine x_getr (k := 6) (d := 17) dX8_stock_26 fl8_52 k_0 rfl (fun k9 => ?_)
      have k9 : isK 0 6 17 := k9
      show Ok g mX8_stock (rmX 2) (FX g (pI (fun z M' => ((0 ≤ c ∧ c ≤ 3) ∧ 1 ≤ m ∧ m ≤ 20) ∧ z = M' 25 c ∧ FRb (up M 25 c (M 25 c + m)) c M' ∧ RAb M' c (SVo ((b c).1, (b c).2.1, (b c).2.2.1 + m, (b c).2.2.2.1, (b c).2.2.2.2)))) (fun E M' => (E = "java/lang/IllegalArgumentException" ∧ (¬ ((0 ≤ c ∧ c ≤ 3) ∧ 1 ≤ m ∧ m ≤ 20)) ∧ M' = M))) 29 [(0, rv g 0), (1, iv c), (2, iv m)] [rv g 17] M
      refine x_getr (k := 3) (d := 8) dX8_stock_29 fl8_231 k9 rfl (fun k10 => ?_)
      have k10 : isK 20 4 25 := k10
      show Ok g mX8_stock (rmX 2) (FX g (pI (fun z M' => ((0 ≤ c ∧ c ≤ 3) ∧ 1 ≤ m ∧ m ≤ 20) ∧ z = M' 25 c ∧ FRb (up M 25 c (M 25 c + m)) c M' ∧ RAb M' c (SVo ((b c).1, (b c).2.1, (b c).2.2.1 + m, (b c).2.2.2.1, (b c).2.2.2.2)))) (fun E M' => (E = "java/lang/IllegalArgumentException" ∧ (¬ ((0 ≤ c ∧ c ≤ 3) ∧ 1 ≤ m ∧ m ≤ 20)) ∧ M' = M))) 32 [(0, rv g 0), (1, iv c), (2, iv m)] [rv g 25] M
      refine x_iload_n 1 dX8_stock_32 rfl rfl ?_
      refine x_dup2 dX8_stock_33 rfl rfl ?_
      refine x_iald dX8_stock_34 k10 (by omega) (by omega) (by decide) (fun ⟨a11, a11'⟩ => ?_)
      refine x_iload_n 2 dX8_stock_35 rfl rfl ?_
      refine x_iadd dX8_stock_36 ?_
      refine x_iast dX8_stock_37 k10 (by omega) (by omega) (by decide) ⟨by omega, by omega⟩ ?_
      refine x_aload_n 0 dX8_stock_38 rfl rfl ?_
      refine x_getr (k := 6) (d := 17) dX8_stock_39 fl8_52 k_0 rfl (fun k12 => ?_)
      have k12 : isK 0 6 17 := k12
      show Ok g mX8_stock (rmX 2) (FX g (pI (fun z M' => ((0 ≤ c ∧ c ≤ 3) ∧ 1 ≤ m ∧ m ≤ 20) ∧ z = M' 25 c ∧ FRb (up M 25 c (M 25 c + m)) c M' ∧ RAb M' c (SVo ((b c).1, (b c).2.1, (b c).2.2.1 + m, (b c).2.2.2.1, (b c).2.2.2.2)))) (fun E M' => (E = "java/lang/IllegalArgumentException" ∧ (¬ ((0 ≤ c ∧ c ≤ 3) ∧ 1 ≤ m ∧ m ≤ 20)) ∧ M' = M))) 42 [(0, rv g 0), (1, iv c), (2, iv m)] [rv g 17] (up M 25 c ((M 25 c) + m))
      refine x_iload_n 1 dX8_stock_42 rfl rfl ?_
      refine x_callVV (as := [iv c]) (rest := []) dX8_stock_43 vl8_234 k12 (c_X0_serve g (up M 25 c ((M 25 c) + m)) c ((b c).1, (b c).2.1, (b c).2.2.1 + m, (b c).2.2.2.1, (b c).2.2.2.2) (by omega) (hb9.1.more (by omega)) hb9.2.1 (by have h1 := hb9.2.2.1.1; have h2 := hb9.2.2.1.2.2; show -1000000 ≤ (b c).2.2.1 + m ∧ (b c).2.2.1 + m ≤ 1000000 ∧ -1000000 ≤ (b c).2.2.2.2 ∧ (b c).2.2.2.2 ≤ 1000000; omega)) rfl rfl (Nat.le_of_ble_eq_true rfl) ⟨Nat.le_of_ble_eq_true rfl, Nat.le_of_ble_eq_true rfl⟩ (fun M15 h14 => ?_)
      have hs := h14
      refine x_aload_n 0 dX8_stock_46 rfl rfl ?_
      refine x_getr (k := 6) (d := 17) dX8_stock_47 fl8_52 k_0 rfl (fun k16 => ?_)
      have k16 : isK 0 6 17 := k16
      show Ok g mX8_stock (rmX 2) (FX g (pI (fun z M' => ((0 ≤ c ∧ c ≤ 3) ∧ 1 ≤ m ∧ m ≤ 20) ∧ z = M' 25 c ∧ FRb (up M 25 c (M 25 c + m)) c M' ∧ RAb M' c (SVo ((b c).1, (b c).2.1, (b c).2.2.1 + m, (b c).2.2.2.1, (b c).2.2.2.2)))) (fun E M' => (E = "java/lang/IllegalArgumentException" ∧ (¬ ((0 ≤ c ∧ c ≤ 3) ∧ 1 ≤ m ∧ m ≤ 20)) ∧ M' = M))) 50 [(0, rv g 0), (1, iv c), (2, iv m)] [rv g 17] M15
      refine x_getr (k := 3) (d := 8) dX8_stock_50 fl8_231 k16 rfl (fun k17 => ?_)
      have k17 : isK 20 4 25 := k17
      show Ok g mX8_stock (rmX 2) (FX g (pI (fun z M' => ((0 ≤ c ∧ c ≤ 3) ∧ 1 ≤ m ∧ m ≤ 20) ∧ z = M' 25 c ∧ FRb (up M 25 c (M 25 c + m)) c M' ∧ RAb M' c (SVo ((b c).1, (b c).2.1, (b c).2.2.1 + m, (b c).2.2.2.1, (b c).2.2.2.2)))) (fun E M' => (E = "java/lang/IllegalArgumentException" ∧ (¬ ((0 ≤ c ∧ c ≤ 3) ∧ 1 ≤ m ∧ m ≤ 20)) ∧ M' = M))) 53 [(0, rv g 0), (1, iv c), (2, iv m)] [rv g 25] M15
      refine x_iload_n 1 dX8_stock_53 rfl rfl ?_
      refine x_iald dX8_stock_54 k17 (by omega) (by omega) (by decide) (fun ⟨a18, a18'⟩ => ?_)
      refine x_toX ?_
      refine x_iret dX8_stock_55 rfl rfl ?_
      exact ⟨_, rfl, by omega, rfl, hs.1, hs.2⟩
    · exact x_throw hst ex_88 dX8_stock_17 dX8_stock_20 dX8_stock_21 dX8_stock_24 (Nat.le_of_ble_eq_true rfl) (Nat.le_of_ble_eq_true rfl) (Nat.le_of_ble_eq_true rfl) (Nat.le_of_ble_eq_true rfl) (⟨rfl, by omega, rfl⟩)
