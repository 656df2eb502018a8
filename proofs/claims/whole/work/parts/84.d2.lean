set_option maxHeartbeats 600000 in
set_option maxRecDepth 100000 in
theorem c_X8_test (g : GG) (M : Mem) (p : Int) (b : Int → BSt) (C : CR M) (hp : rg p) (hPG : ∀ r, 0 ≤ r → r < M 0 12 → PG M (8 * r + 149)) (h5 : NU M 5) (hI : SI M (-1)) (hD : DKs M) (hb : ∀ c, 0 ≤ c → c < 4 → RAb M c (b c) ∧ QS 50000 (b c)) (hst : g.1.stackTraces = false) : Ctx g yX8_test cX8_test 3 (some .int) 6 [rv g 0, iv p] M (pI (fun z M' => ((0 ≤ p ∧ p < M 0 10) ∧ M (20 * p + 48) 3 < 6) ∧ ∃ M2, CPY M p (M (20 * p + 48) 3) (M (20 * p + 48) 3 + 1) M2 ∧ JAW M2 p (M (20 * p + 48) 3) (b (M (20 * p + 48) 1)) z M')) (fun E M' => (E = "java/lang/IndexOutOfBoundsException" ∧ (p < 0 ∨ M 0 10 ≤ p) ∧ M' = M) ∨ (E = "java/lang/IllegalStateException" ∧ ((0 ≤ p ∧ p < M 0 10) ∧ M (20 * p + 48) 3 = 6) ∧ M' = M)) := by
  refine ctx_of (by decide +kernel) (Nat.le_of_ble_eq_true rfl) ?_
  show Ok g mX8_test (rmX 6) (FX g (pI (fun z M' => ((0 ≤ p ∧ p < M 0 10) ∧ M (20 * p + 48) 3 < 6) ∧ ∃ M2, CPY M p (M (20 * p + 48) 3) (M (20 * p + 48) 3 + 1) M2 ∧ JAW M2 p (M (20 * p + 48) 3) (b (M (20 * p + 48) 1)) z M')) (fun E M' => (E = "java/lang/IndexOutOfBoundsException" ∧ (p < 0 ∨ M 0 10 ≤ p) ∧ M' = M) ∨ (E = "java/lang/IllegalStateException" ∧ ((0 ≤ p ∧ p < M 0 10) ∧ M (20 * p + 48) 3 = 6) ∧ M' = M))) 0 [(0, rv g 0), (1, iv p)] [] M
  have c0 := C.1
  have hp1 := hp.1
  have hp2 := hp.2
  obtain ⟨-, h51, h52, h53, h54, -⟩ := id h5
  refine x_aload_n 0 dX8_test_0 rfl rfl ?_
  refine x_iload_n 1 dX8_test_1 rfl rfl ?_
  refine x_callVIP (as := [iv p]) (rest := []) dX8_test_2 vl8_130 k_0 (c_X8_hasProblem g M p (by omega) ⟨by omega, by omega⟩) rfl rfl (Nat.le_of_ble_eq_true rfl) ⟨Nat.le_of_ble_eq_true rfl, Nat.le_of_ble_eq_true rfl⟩ (fun z1 h2 => ?_)
  refine x_if_ne (tgt := 16) dX8_test_5 (by decide) ⟨by omega, by omega⟩ (fun c4 => ?_) (fun c4 => ?_)
  · have i2 := C.prob p (by omega) (by omega)
    refine x_aload_n 0 dX8_test_16 rfl rfl ?_
    refine x_getr (k := 2) (d := 8) dX8_test_17 fl8_25 k_0 rfl (fun k5 => ?_)
    have k5 : isK 30 5 8 := k5
    show Ok g mX8_test (rmX 6) (FX g (pI (fun z M' => ((0 ≤ p ∧ p < M 0 10) ∧ M (20 * p + 48) 3 < 6) ∧ ∃ M2, CPY M p (M (20 * p + 48) 3) (M (20 * p + 48) 3 + 1) M2 ∧ JAW M2 p (M (20 * p + 48) 3) (b (M (20 * p + 48) 1)) z M')) (fun E M' => (E = "java/lang/IndexOutOfBoundsException" ∧ (p < 0 ∨ M 0 10 ≤ p) ∧ M' = M) ∨ (E = "java/lang/IllegalStateException" ∧ ((0 ≤ p ∧ p < M 0 10) ∧ M (20 * p + 48) 3 = 6) ∧ M' = M))) 20 [(0, rv g 0), (1, iv p)] [rv g 8] M
    refine x_iload_n 1 dX8_test_20 rfl rfl ?_
    refine x_aald30 dX8_test_21 k5 (by omega) (by omega) (by decide) (fun k6 => ?_)
    have ek6 : 8 + (40 + 20 * p) = 20 * p + 48 := by omega
    rw [ek6] at k6 ⊢
    refine x_geti (k := 3) (kI := 3) dX8_test_22 fl8_136 k6 rfl rfl (fun ⟨a7, a7'⟩ => ?_)
    refine x_istore_n (lv' := [(2, iv (M (20 * p + 48) 3)), (0, rv g 0), (1, iv p)]) dX8_test_25 rfl (Nat.le_of_ble_eq_true rfl) rfl ?_
    refine x_iload_n 0 dX8_test_26 rfl rfl ?_
    refine x_bipush (6) dX8_test_27 rfl ?_
    refine x_icmp_lt (tgt := 40) dX8_test_29 (by decide) ⟨by omega, by omega⟩ ⟨by decide, by decide⟩ (fun c8 => ?_) (fun c8 => ?_)
    · refine x_aload_n 1 dX8_test_40 rfl rfl ?_
      refine x_getr (k := 2) (d := 8) dX8_test_41 fl8_25 k_0 rfl (fun k9 => ?_)
      have k9 : isK 30 5 8 := k9
      show Ok g mX8_test (rmX 6) (FX g (pI (fun z M' => ((0 ≤ p ∧ p < M 0 10) ∧ M (20 * p + 48) 3 < 6) ∧ ∃ M2, CPY M p (M (20 * p + 48) 3) (M (20 * p + 48) 3 + 1) M2 ∧ JAW M2 p (M (20 * p + 48) 3) (b (M (20 * p + 48) 1)) z M')) (fun E M' => (E = "java/lang/IndexOutOfBoundsException" ∧ (p < 0 ∨ M 0 10 ≤ p) ∧ M' = M) ∨ (E = "java/lang/IllegalStateException" ∧ ((0 ≤ p ∧ p < M 0 10) ∧ M (20 * p + 48) 3 = 6) ∧ M' = M))) 44 [(2, iv (M (20 * p + 48) 3)), (0, rv g 0), (1, iv p)] [rv g 8] M
      refine x_iload_n 2 dX8_test_44 rfl rfl ?_
      refine x_aald30 dX8_test_45 k9 (by omega) (by omega) (by decide) (fun k10 => ?_)
      have ek10 : 8 + (40 + 20 * p) = 20 * p + 48 := by omega
      rw [ek10] at k10 ⊢
      refine x_dup dX8_test_46 rfl ?_
      refine x_geti (k := 3) (kI := 3) dX8_test_47 fl8_136 k10 rfl rfl (fun ⟨a11, a11'⟩ => ?_)
      refine x_iconst (1) dX8_test_50 rfl ?_
      refine x_iadd dX8_test_51 ?_
      refine x_puti (k := 3) (kI := 3) dX8_test_52 fw8_136 k10 rfl ⟨by omega, by omega⟩ rfl rfl rfl ?_
      refine x_aload_n 1 dX8_test_55 rfl rfl ?_
      refine x_getr (k := 2) (d := 8) dX8_test_56 fl8_25 k_0 rfl (fun k12 => ?_)
      have k12 : isK 30 5 8 := k12
      show Ok g mX8_test (rmX 6) (FX g (pI (fun z M' => ((0 ≤ p ∧ p < M 0 10) ∧ M (20 * p + 48) 3 < 6) ∧ ∃ M2, CPY M p (M (20 * p + 48) 3) (M (20 * p + 48) 3 + 1) M2 ∧ JAW M2 p (M (20 * p + 48) 3) (b (M (20 * p + 48) 1)) z M')) (fun E M' => (E = "java/lang/IndexOutOfBoundsException" ∧ (p < 0 ∨ M 0 10 ≤ p) ∧ M' = M) ∨ (E = "java/lang/IllegalStateException" ∧ ((0 ≤ p ∧ p < M 0 10) ∧ M (20 * p + 48) 3 = 6) ∧ M' = M))) 59 [(2, iv (M (20 * p + 48) 3)), (0, rv g 0), (1, iv p)] [rv g 8] (up M (20 * p + 48) 3 ((M (20 * p + 48) 3) + 1))
      refine x_iload_n 2 dX8_test_59 rfl rfl ?_
      refine x_aald30 dX8_test_60 k12 (by omega) (by omega) (by decide) (fun k13 => ?_)
      have ek13 : 8 + (40 + 20 * p) = 20 * p + 48 := by omega
      rw [ek13] at k13 ⊢
      refine x_getr (k := 0) (d := 1) dX8_test_61 fl8_139 k13 rfl (fun k14 => ?_)
      have ek14 : (20 * p + 48 + 1 : Int) = 20 * p + 49 := by omega
      rw [ek14] at k14 ⊢
      refine x_iload_n 0 dX8_test_64 rfl rfl ?_
      refine x_aald32 dX8_test_65 k14 (by omega) (by omega) (by decide) (fun k15 => ?_)
      have ek15 : 20 * p + 49 + (1 + 3 * (M (20 * p + 48) 3)) = 3 * M (20 * p + 48) 3 + 20 * p + 50 := by omega
      rw [ek15] at k15 ⊢
      refine x_aload_n 1 dX8_test_66 rfl rfl ?_
      refine x_getr (k := 1) (d := 5) dX8_test_67 fl8_19 k_0 rfl (fun k16 => ?_)
      have k16 : isK 3 4 5 := k16
      show Ok g mX8_test (rmX 6) (FX g (pI (fun z M' => ((0 ≤ p ∧ p < M 0 10) ∧ M (20 * p + 48) 3 < 6) ∧ ∃ M2, CPY M p (M (20 * p + 48) 3) (M (20 * p + 48) 3 + 1) M2 ∧ JAW M2 p (M (20 * p + 48) 3) (b (M (20 * p + 48) 1)) z M')) (fun E M' => (E = "java/lang/IndexOutOfBoundsException" ∧ (p < 0 ∨ M 0 10 ≤ p) ∧ M' = M) ∨ (E = "java/lang/IllegalStateException" ∧ ((0 ≤ p ∧ p < M 0 10) ∧ M (20 * p + 48) 3 = 6) ∧ M' = M))) 70 [(2, iv (M (20 * p + 48) 3)), (0, rv g 0), (1, iv p)] [rv g 5, rv g (3 * M (20 * p + 48) 3 + 20 * p + 50)] (up M (20 * p + 48) 3 ((M (20 * p + 48) 3) + 1))
      refine x_callVV (as := [rv g 5]) (rest := []) dX8_test_70 vl8_143 k15 (c_X3_copyFrom g (up M (20 * p + 48) 3 ((M (20 * p + 48) 3) + 1)) (3 * M (20 * p + 48) 3 + 20 * p + 50) 5 k15 k_5 (by omega) (by (try simp (disch := omega) only [up_o]); exact ⟨h51, h52, h53, h54⟩)) rfl rfl (Nat.le_of_ble_eq_true rfl) ⟨Nat.le_of_ble_eq_true rfl, Nat.le_of_ble_eq_true rfl⟩ (fun M19 h18 => ?_)
      have hx := h18
      rw [show ((3 * M (20 * p + 48) 3 + 20 * p + 50) : Int) = 20 * p + 3 * (M (20 * p + 48) 3) + 50 by omega] at hx
      have hc : CPY M p (M (20 * p + 48) 3) (M (20 * p + 48) 3 + 1) M19 := by
        obtain ⟨x1, x2, x3, x4, x5⟩ := hx
        try simp (disch := omega) only [up_o] at x2 x3 x4 x5
        refine ⟨fun o k h1 h2 => ?_, ?_, x2, x3, fun j j0 j1 => ?_, fun j j0 j1 => ?_⟩
        · rw [x1 o k (by omega)]; exact up_n (by omega)
        · rw [x1 _ _ (by omega)]; exact up_s _ _ _ _
        · have h9 := x4 j j0 j1
          rw [show 20 * p + 3 * (M (20 * p + 48) 3) + 50 + 1 = 20 * p + 3 * (M (20 * p + 48) 3) + 51 by omega] at h9
          exact h9
        · have h9 := x5 j j0 j1
          rw [show 20 * p + 3 * (M (20 * p + 48) 3) + 50 + 2 = 20 * p + 3 * (M (20 * p + 48) 3) + 52 by omega] at h9
          exact h9
      have f := hc.1
      have hb9 := hb (M (20 * p + 48) 1) (by omega) (by omega)
      refine x_aload_n 1 dX8_test_73 rfl rfl ?_
      refine x_iload_n 2 dX8_test_74 rfl rfl ?_
      refine x_iload_n 0 dX8_test_75 rfl rfl ?_
      refine x_callVI (as := [iv p, iv (M (20 * p + 48) 3)]) (rest := []) dX8_test_76 vl8_147 k_0 (c_X8_judgeAnew g M19 p (M (20 * p + 48) 3) (b (M (20 * p + 48) 1)) (hc.cr C (by omega) (by omega) (by omega) (by omega) (by omega)) (by omega) (by rw [f 0 10 (by omega) (by omega)]; omega) (by omega) (by rw [hc.2.1]; omega) (fun r r0 r1 => by rw [f 0 12 (by omega) (by omega)] at r1; exact (hPG r r0 r1).cong (fun o k h => f o k (by omega) (by omega))) (hc.nu (by omega) (by omega) (by omega) (by omega) h5) (hI.cong (fun o k h => f o k (by omega) (by omega))) (hc.oth C (by omega) (by omega) (by omega) (by omega) (by intro u _ _; omega) hD) (by rw [f (20 * p + 48) 1 (by omega) (by omega)]; exact hb9.1.cong (by omega) (by omega) (fun o k h => f o k (by omega) (by omega))) hb9.2) rfl rfl (Nat.le_of_ble_eq_true rfl) ⟨Nat.le_of_ble_eq_true rfl, Nat.le_of_ble_eq_true rfl⟩ (fun z20 M22 h21 => ?_)
      have hJ := h21
      refine x_toX ?_
      refine x_iret dX8_test_79 rfl rfl ?_
      exact ⟨_, rfl, by omega, _, hc, hJ⟩
    · exact x_throw hst ex_94 dX8_test_32 dX8_test_35 dX8_test_36 dX8_test_39 (Nat.le_of_ble_eq_true rfl) (Nat.le_of_ble_eq_true rfl) (Nat.le_of_ble_eq_true rfl) (Nat.le_of_ble_eq_true rfl) (Or.inr (⟨rfl, ⟨by omega, by omega⟩, rfl⟩))
  · exact x_throw hst ex_133 dX8_test_8 dX8_test_11 dX8_test_12 dX8_test_15 (Nat.le_of_ble_eq_true rfl) (Nat.le_of_ble_eq_true rfl) (Nat.le_of_ble_eq_true rfl) (Nat.le_of_ble_eq_true rfl) (Or.inl ⟨rfl, by omega, rfl⟩)

set_option maxHeartbeats 600000 in
set_option maxRecDepth 100000 in
theorem c_X8_fix (g : GG) (M : Mem) (p t : Int) (b : Int → BSt) (C : CR M) (hp : rg p) (ht : rg t) (hPG : ∀ r, 0 ≤ r → r < M 0 12 → PG M (8 * r + 149)) (h5 : NU M 5) (hI : SI M (-1)) (hD : DKs M) (hb : ∀ c, 0 ≤ c → c < 4 → RAb M c (b c) ∧ QS 50000 (b c)) (hst : g.1.stackTraces = false) : Ctx g yX8_fix cX8_fix 3 (some .int) 6 [rv g 0, iv p, iv t] M (pI (fun z M' => ((0 ≤ p ∧ p < M 0 10) ∧ 0 ≤ t ∧ t < M (20 * p + 48) 3) ∧ ∃ M2, CPY M p t (M (20 * p + 48) 3) M2 ∧ JAW M2 p t (b (M (20 * p + 48) 1)) z M')) (fun E M' => (E = "java/lang/IndexOutOfBoundsException" ∧ (¬ ((0 ≤ p ∧ p < M 0 10) ∧ 0 ≤ t ∧ t < M (20 * p + 48) 3)) ∧ M' = M)) := by
  refine ctx_of (by decide +kernel) (Nat.le_of_ble_eq_true rfl) ?_
  show Ok g mX8_fix (rmX 6) (FX g (pI (fun z M' => ((0 ≤ p ∧ p < M 0 10) ∧ 0 ≤ t ∧ t < M (20 * p + 48) 3) ∧ ∃ M2, CPY M p t (M (20 * p + 48) 3) M2 ∧ JAW M2 p t (b (M (20 * p + 48) 1)) z M')) (fun E M' => (E = "java/lang/IndexOutOfBoundsException" ∧ (¬ ((0 ≤ p ∧ p < M 0 10) ∧ 0 ≤ t ∧ t < M (20 * p + 48) 3)) ∧ M' = M))) 0 [(0, rv g 0), (1, iv p), (2, iv t)] [] M
  have c0 := C.1
  have hp1 := hp.1
  have hp2 := hp.2
  have ht1 := ht.1
  have ht2 := ht.2
  obtain ⟨-, h51, h52, h53, h54, -⟩ := id h5
  refine x_aload_n 0 dX8_fix_0 rfl rfl ?_
  refine x_iload_n 1 dX8_fix_1 rfl rfl ?_
  refine x_callVIP (as := [iv p]) (rest := []) dX8_fix_2 vl8_130 k_0 (c_X8_hasProblem g M p (by omega) ⟨by omega, by omega⟩) rfl rfl (Nat.le_of_ble_eq_true rfl) ⟨Nat.le_of_ble_eq_true rfl, Nat.le_of_ble_eq_true rfl⟩ (fun z1 h2 => ?_)
  refine x_if_eq (tgt := 21) dX8_fix_5 (by decide) ⟨by omega, by omega⟩ (fun c4 => ?_) (fun c4 => ?_)
  · exact x_throw hst ex_133 dX8_fix_21 dX8_fix_24 dX8_fix_25 dX8_fix_28 (Nat.le_of_ble_eq_true rfl) (Nat.le_of_ble_eq_true rfl) (Nat.le_of_ble_eq_true rfl) (Nat.le_of_ble_eq_true rfl) (⟨rfl, by omega, rfl⟩)
  · have i2 := C.prob p (by omega) (by omega)
    refine x_aload_n 0 dX8_fix_8 rfl rfl ?_
    refine x_getr (k := 2) (d := 8) dX8_fix_9 fl8_25 k_0 rfl (fun k5 => ?_)
    have k5 : isK 30 5 8 := k5
    show Ok g mX8_fix (rmX 6) (FX g (pI (fun z M' => ((0 ≤ p ∧ p < M 0 10) ∧ 0 ≤ t ∧ t < M (20 * p + 48) 3) ∧ ∃ M2, CPY M p t (M (20 * p + 48) 3) M2 ∧ JAW M2 p t (b (M (20 * p + 48) 1)) z M')) (fun E M' => (E = "java/lang/IndexOutOfBoundsException" ∧ (¬ ((0 ≤ p ∧ p < M 0 10) ∧ 0 ≤ t ∧ t < M (20 * p + 48) 3)) ∧ M' = M))) 12 [(0, rv g 0), (1, iv p), (2, iv t)] [rv g 8] M
    refine x_iload_n 1 dX8_fix_12 rfl rfl ?_
    refine x_aald30 dX8_fix_13 k5 (by omega) (by omega) (by decide) (fun k6 => ?_)
    have ek6 : 8 + (40 + 20 * p) = 20 * p + 48 := by omega
    rw [ek6] at k6 ⊢
    refine x_iload_n 2 dX8_fix_14 rfl rfl ?_
    refine x_callVIP (as := [iv t]) (rest := []) dX8_fix_15 vl8_151 k6 (c_X4_hasTest g M (20 * p + 48) t k6 ⟨by omega, by omega⟩ (by omega)) rfl rfl (Nat.le_of_ble_eq_true rfl) ⟨Nat.le_of_ble_eq_true rfl, Nat.le_of_ble_eq_true rfl⟩ (fun z7 h8 => ?_)
    refine x_if_ne (tgt := 29) dX8_fix_18 (by decide) ⟨by omega, by omega⟩ (fun c10 => ?_) (fun c10 => ?_)
    · refine x_aload_n 0 dX8_fix_29 rfl rfl ?_
      refine x_getr (k := 2) (d := 8) dX8_fix_30 fl8_25 k_0 rfl (fun k11 => ?_)
      have k11 : isK 30 5 8 := k11
      show Ok g mX8_fix (rmX 6) (FX g (pI (fun z M' => ((0 ≤ p ∧ p < M 0 10) ∧ 0 ≤ t ∧ t < M (20 * p + 48) 3) ∧ ∃ M2, CPY M p t (M (20 * p + 48) 3) M2 ∧ JAW M2 p t (b (M (20 * p + 48) 1)) z M')) (fun E M' => (E = "java/lang/IndexOutOfBoundsException" ∧ (¬ ((0 ≤ p ∧ p < M 0 10) ∧ 0 ≤ t ∧ t < M (20 * p + 48) 3)) ∧ M' = M))) 33 [(0, rv g 0), (1, iv p), (2, iv t)] [rv g 8] M
      refine x_iload_n 1 dX8_fix_33 rfl rfl ?_
      refine x_aald30 dX8_fix_34 k11 (by omega) (by omega) (by decide) (fun k12 => ?_)
      have ek12 : 8 + (40 + 20 * p) = 20 * p + 48 := by omega
      rw [ek12] at k12 ⊢
      refine x_getr (k := 0) (d := 1) dX8_fix_35 fl8_139 k12 rfl (fun k13 => ?_)
      have ek13 : (20 * p + 48 + 1 : Int) = 20 * p + 49 := by omega
      rw [ek13] at k13 ⊢
      refine x_iload_n 2 dX8_fix_38 rfl rfl ?_
      refine x_aald32 dX8_fix_39 k13 (by omega) (by omega) (by decide) (fun k14 => ?_)
      have ek14 : 20 * p + 49 + (1 + 3 * t) = 20 * p + 3 * t + 50 := by omega
      rw [ek14] at k14 ⊢
      refine x_aload_n 0 dX8_fix_40 rfl rfl ?_
      refine x_getr (k := 1) (d := 5) dX8_fix_41 fl8_19 k_0 rfl (fun k15 => ?_)
      have k15 : isK 3 4 5 := k15
      show Ok g mX8_fix (rmX 6) (FX g (pI (fun z M' => ((0 ≤ p ∧ p < M 0 10) ∧ 0 ≤ t ∧ t < M (20 * p + 48) 3) ∧ ∃ M2, CPY M p t (M (20 * p + 48) 3) M2 ∧ JAW M2 p t (b (M (20 * p + 48) 1)) z M')) (fun E M' => (E = "java/lang/IndexOutOfBoundsException" ∧ (¬ ((0 ≤ p ∧ p < M 0 10) ∧ 0 ≤ t ∧ t < M (20 * p + 48) 3)) ∧ M' = M))) 44 [(0, rv g 0), (1, iv p), (2, iv t)] [rv g 5, rv g (20 * p + 3 * t + 50)] M
      refine x_callVV (as := [rv g 5]) (rest := []) dX8_fix_44 vl8_143 k14 (c_X3_copyFrom g M (20 * p + 3 * t + 50) 5 k14 k_5 (by omega) (by (try simp (disch := omega) only [up_o]); exact ⟨h51, h52, h53, h54⟩)) rfl rfl (Nat.le_of_ble_eq_true rfl) ⟨Nat.le_of_ble_eq_true rfl, Nat.le_of_ble_eq_true rfl⟩ (fun M18 h17 => ?_)
      have hx := h17
      rw [show ((20 * p + 3 * t + 50) : Int) = 20 * p + 3 * t + 50 by omega] at hx
      have hc : CPY M p t (M (20 * p + 48) 3) M18 := by
        obtain ⟨x1, x2, x3, x4, x5⟩ := hx
        try simp (disch := omega) only [up_o] at x2 x3 x4 x5
        refine ⟨fun o k h1 h2 => ?_, ?_, x2, x3, fun j j0 j1 => ?_, fun j j0 j1 => ?_⟩
        · rw [x1 o k (by omega)]
        · rw [x1 _ _ (by omega)]
        · have h9 := x4 j j0 j1
          rw [show 20 * p + 3 * t + 50 + 1 = 20 * p + 3 * t + 51 by omega] at h9
          exact h9
        · have h9 := x5 j j0 j1
          rw [show 20 * p + 3 * t + 50 + 2 = 20 * p + 3 * t + 52 by omega] at h9
          exact h9
      have f := hc.1
      have hb9 := hb (M (20 * p + 48) 1) (by omega) (by omega)
      refine x_aload_n 0 dX8_fix_47 rfl rfl ?_
      refine x_iload_n 1 dX8_fix_48 rfl rfl ?_
      refine x_iload_n 2 dX8_fix_49 rfl rfl ?_
      refine x_callVI (as := [iv p, iv t]) (rest := []) dX8_fix_50 vl8_147 k_0 (c_X8_judgeAnew g M18 p t (b (M (20 * p + 48) 1)) (hc.cr C (by omega) (by omega) (by omega) (by omega) (by omega)) (by omega) (by rw [f 0 10 (by omega) (by omega)]; omega) (by omega) (by rw [hc.2.1]; omega) (fun r r0 r1 => by rw [f 0 12 (by omega) (by omega)] at r1; exact (hPG r r0 r1).cong (fun o k h => f o k (by omega) (by omega))) (hc.nu (by omega) (by omega) (by omega) (by omega) h5) (hI.cong (fun o k h => f o k (by omega) (by omega))) (hc.oth C (by omega) (by omega) (by omega) (by omega) (by intro u _ _; omega) hD) (by rw [f (20 * p + 48) 1 (by omega) (by omega)]; exact hb9.1.cong (by omega) (by omega) (fun o k h => f o k (by omega) (by omega))) hb9.2) rfl rfl (Nat.le_of_ble_eq_true rfl) ⟨Nat.le_of_ble_eq_true rfl, Nat.le_of_ble_eq_true rfl⟩ (fun z19 M21 h20 => ?_)
      have hJ := h20
      refine x_toX ?_
      refine x_iret dX8_fix_53 rfl rfl ?_
      exact ⟨_, rfl, by omega, _, hc, hJ⟩
    · exact x_throw hst ex_133 dX8_fix_21 dX8_fix_24 dX8_fix_25 dX8_fix_28 (Nat.le_of_ble_eq_true rfl) (Nat.le_of_ble_eq_true rfl) (Nat.le_of_ble_eq_true rfl) (Nat.le_of_ble_eq_true rfl) (⟨rfl, by omega, rfl⟩)
