set_option maxHeartbeats 600000 in
set_option maxRecDepth 100000 in
theorem c_X8_kept (g : GG) (M : Mem)   : Ct g yX8_kept cX8_kept 1 (some .int) 0 [rv g 0] M (pIP (fun z => z = M 13 3) M) := by
  refine ct_of (by decide +kernel) (Nat.le_of_ble_eq_true rfl) ?_
  show Ok g mX8_kept (rmd 0) (FQ g (pIP (fun z => z = M 13 3) M)) 0 [(0, rv g 0)] [] M
  refine x_aload_n 0 dX8_kept_0 rfl rfl ?_
  refine x_getr (k := 5) (d := 13) dX8_kept_1 fl8_45 k_0 rfl (fun k1 => ?_)
  have k1 : isK 7 4 13 := k1
  show Ok g mX8_kept (rmd 0) (FQ g (pIP (fun z => z = M 13 3) M)) 4 [(0, rv g 0)] [rv g 13] M
  refine x_geti (k := 3) (kI := 3) dX8_kept_4 fl8_225 k1 rfl rfl (fun ⟨a2, a2'⟩ => ?_)
  refine x_iret dX8_kept_7 rfl rfl ?_
  exact ⟨_, rfl, rfl, by omega⟩

set_option maxHeartbeats 600000 in
set_option maxRecDepth 100000 in
theorem c_X8_calledBack (g : GG) (M : Mem)   : Ct g yX8_calledBack cX8_calledBack 1 (some .int) 0 [rv g 0] M (pIP (fun z => z = M 17 5) M) := by
  refine ct_of (by decide +kernel) (Nat.le_of_ble_eq_true rfl) ?_
  show Ok g mX8_calledBack (rmd 0) (FQ g (pIP (fun z => z = M 17 5) M)) 0 [(0, rv g 0)] [] M
  refine x_aload_n 0 dX8_calledBack_0 rfl rfl ?_
  refine x_getr (k := 6) (d := 17) dX8_calledBack_1 fl8_52 k_0 rfl (fun k1 => ?_)
  have k1 : isK 0 6 17 := k1
  show Ok g mX8_calledBack (rmd 0) (FQ g (pIP (fun z => z = M 17 5) M)) 4 [(0, rv g 0)] [rv g 17] M
  refine x_geti (k := 5) (kI := 5) dX8_calledBack_4 fl8_257 k1 rfl rfl (fun ⟨a2, a2'⟩ => ?_)
  refine x_iret dX8_calledBack_7 rfl rfl ?_
  exact ⟨_, rfl, rfl, by omega⟩

set_option maxHeartbeats 600000 in
set_option maxRecDepth 100000 in
theorem c_X8_wipe (g : GG) (M : Mem) (b : Int) (hb : b = 0 ∨ b = 1) (hr : 0 ≤ M 5 2 ∧ M 5 2 ≤ 4 ∧ 0 ≤ M 5 3 ∧ M 5 3 ≤ 6) : Ct g yX8_wipe cX8_wipe 2 (some .int) 1 [rv g 0, iv b] M (pI (fun z M' => (b = 1 ∧ z = M 1 3 ∧ M' = up M 1 3 0) ∨ (b = 0 ∧ z = M 5 2 + M 5 3 ∧ M' = up (up M 5 2 0) 5 3 0))) := by
  refine ct_of (by decide +kernel) (Nat.le_of_ble_eq_true rfl) ?_
  show Ok g mX8_wipe (rmd 1) (FQ g (pI (fun z M' => (b = 1 ∧ z = M 1 3 ∧ M' = up M 1 3 0) ∨ (b = 0 ∧ z = M 5 2 + M 5 3 ∧ M' = up (up M 5 2 0) 5 3 0)))) 0 [(0, rv g 0), (1, iv b)] [] M
  refine x_iload_n 1 dX8_wipe_0 rfl rfl ?_
  refine x_if_eq (tgt := 12) dX8_wipe_1 (by decide) ⟨by omega, by omega⟩ (fun c1 => ?_) (fun c1 => ?_)
  · refine x_aload_n 0 dX8_wipe_12 rfl rfl ?_
    refine x_getr (k := 1) (d := 5) dX8_wipe_13 fl8_19 k_0 rfl (fun k2 => ?_)
    have k2 : isK 3 4 5 := k2
    show Ok g mX8_wipe (rmd 1) (FQ g (pI (fun z M' => (b = 1 ∧ z = M 1 3 ∧ M' = up M 1 3 0) ∨ (b = 0 ∧ z = M 5 2 + M 5 3 ∧ M' = up (up M 5 2 0) 5 3 0)))) 16 [(0, rv g 0), (1, iv b)] [rv g 5] M
    refine x_callVIP (as := []) (rest := []) dX8_wipe_16 vl8_116 k2 (c_X3_clear g M 5 k_5) rfl rfl (Nat.le_of_ble_eq_true rfl) ⟨Nat.le_of_ble_eq_true rfl, Nat.le_of_ble_eq_true rfl⟩ (fun z3 h4 => ?_)
    have hc := h4
    refine x_iret dX8_wipe_19 rfl rfl ?_
    exact ⟨_, rfl, Or.inr ⟨by omega, hc, rfl⟩⟩
  · refine x_aload_n 0 dX8_wipe_4 rfl rfl ?_
    refine x_getr (k := 0) (d := 1) dX8_wipe_5 fl8_12 k_0 rfl (fun k6 => ?_)
    have k6 : isK 5 4 1 := k6
    show Ok g mX8_wipe (rmd 1) (FQ g (pI (fun z M' => (b = 1 ∧ z = M 1 3 ∧ M' = up M 1 3 0) ∨ (b = 0 ∧ z = M 5 2 + M 5 3 ∧ M' = up (up M 5 2 0) 5 3 0)))) 8 [(0, rv g 0), (1, iv b)] [rv g 1] M
    refine x_callVIP (as := []) (rest := []) dX8_wipe_8 vl8_112 k6 (c_X5_clear g M 1 k_1) rfl rfl (Nat.le_of_ble_eq_true rfl) ⟨Nat.le_of_ble_eq_true rfl, Nat.le_of_ble_eq_true rfl⟩ (fun z7 h8 => ?_)
    have hc := h8
    refine x_iret dX8_wipe_11 rfl rfl ?_
    exact ⟨_, rfl, Or.inl ⟨by omega, hc, rfl⟩⟩

set_option maxHeartbeats 600000 in
set_option maxRecDepth 100000 in
theorem c_X8_testCountOf (g : GG) (M : Mem) (r : Int) (r0 : 0 ≤ r) (r1 : r < 40) (p0 : 0 ≤ M (8 * r + 148) 5) (p1 : M (8 * r + 148) 5 < 5) : Ct g yX8_testCountOf cX8_testCountOf 2 (some .int) 0 [rv g 0, rv g (8 * r + 148)] M (pIP (fun z => z = M (20 * M (8 * r + 148) 5 + 48) 3) M) := by
  refine ct_of (by decide +kernel) (Nat.le_of_ble_eq_true rfl) ?_
  show Ok g mX8_testCountOf (rmd 0) (FQ g (pIP (fun z => z = M (20 * M (8 * r + 148) 5 + 48) 3) M)) 0 [(0, rv g 0), (1, rv g (8 * r + 148))] [] M
  refine x_aload_n 0 dX8_testCountOf_0 rfl rfl ?_
  refine x_getr (k := 2) (d := 8) dX8_testCountOf_1 fl8_25 k_0 rfl (fun k1 => ?_)
  have k1 : isK 30 5 8 := k1
  show Ok g mX8_testCountOf (rmd 0) (FQ g (pIP (fun z => z = M (20 * M (8 * r + 148) 5 + 48) 3) M)) 4 [(0, rv g 0), (1, rv g (8 * r + 148))] [rv g 8] M
  refine x_aload_n 1 dX8_testCountOf_4 rfl rfl ?_
  refine x_geti (k := 5) (kI := 5) dX8_testCountOf_5 fl8_166 (k_run r0 r1) rfl rfl (fun ⟨a2, a2'⟩ => ?_)
  refine x_aald30 dX8_testCountOf_8 k1 (by omega) (by omega) (by decide) (fun k3 => ?_)
  have ek3 : 8 + (40 + 20 * (M (8 * r + 148) 5)) = 20 * M (8 * r + 148) 5 + 48 := by omega
  rw [ek3] at k3 ⊢
  refine x_geti (k := 3) (kI := 3) dX8_testCountOf_9 fl8_136 k3 rfl rfl (fun ⟨a4, a4'⟩ => ?_)
  refine x_iret dX8_testCountOf_12 rfl rfl ?_
  exact ⟨_, rfl, rfl, by omega⟩

set_option maxHeartbeats 600000 in
set_option maxRecDepth 100000 in
theorem c_X8_areOutputsAnew (g : GG) (M : Mem)  (C : CR M) (hD : DKs M) : Ct g yX8_areOutputsAnew cX8_areOutputsAnew 4 (some .boolean) 6 [rv g 0] M (pI (fun z M' => z = 1 ∧ ∀ a k, ¬ (10 ≤ a ∧ a ≤ 12) → M' a k = M a k)) := by
  refine ct_of (by decide +kernel) (Nat.le_of_ble_eq_true rfl) ?_
  show Ok g mX8_areOutputsAnew (rmd 6) (FQ g (pI (fun z M' => z = 1 ∧ ∀ a k, ¬ (10 ≤ a ∧ a ≤ 12) → M' a k = M a k))) 0 [(0, rv g 0)] [] M
  have c0 := C.1
  have h_2 : ∀ (n_2 : Nat) (M1 : Mem) (r : Int), (0 ≤ r ∧ r ≤ M 0 12) → (∀ a k, ¬ (10 ≤ a ∧ a ≤ 12) → M1 a k = M a k) → (M 0 12 - r).toNat < n_2 → Ok g mX8_areOutputsAnew (rmd 6) (FQ g (pI (fun z M' => z = 1 ∧ ∀ a k, ¬ (10 ≤ a ∧ a ≤ 12) → M' a k = M a k))) 2 [(0, rv g 0), (1, iv r)] [] M1 := by
    intro n_2
    induction n_2 with
    | zero => intro M1 r j0 j1 hn_2; exact absurd hn_2 (Nat.not_lt_zero _)
    | succ n_2 ih_2 =>
      intro M1 r j0 j1 hn_2
      refine x_iload_n 1 dX8_areOutputsAnew_2 rfl rfl ?_
      refine x_aload_n 0 dX8_areOutputsAnew_3 rfl rfl ?_
      refine x_geti (k := 12) (kI := 12) dX8_areOutputsAnew_4 fl8_76 k_0 rfl rfl (fun ⟨a1, a1'⟩ => ?_)
      have e2 : M1 0 12 = M 0 12 := (j1 _ _ (by omega))
      simp only [e2] at a1 a1' ⊢
      refine x_icmp_ge (tgt := 110) dX8_areOutputsAnew_7 (by decide) ⟨by omega, by omega⟩ ⟨by omega, by omega⟩ (fun c3 => ?_) (fun c3 => ?_)
      · refine x_iconst (1) dX8_areOutputsAnew_110 rfl ?_
        refine x_iret dX8_areOutputsAnew_111 rfl (iZ_bool (by omega)) ?_
        exact ⟨_, rfl, rfl, j1⟩
      · have i1 := C.run r (by omega) (by omega)
        have i2 := C.prob (M (8 * r + 148) 5) (by omega) (by omega)
        refine x_aload_n 0 dX8_areOutputsAnew_10 rfl rfl ?_
        refine x_getr (k := 2) (d := 8) dX8_areOutputsAnew_11 fl8_25 k_0 rfl (fun k4 => ?_)
        have k4 : isK 30 5 8 := k4
        show Ok g mX8_areOutputsAnew (rmd 6) (FQ g (pI (fun z M' => z = 1 ∧ ∀ a k, ¬ (10 ≤ a ∧ a ≤ 12) → M' a k = M a k))) 14 [(0, rv g 0), (1, iv r)] [rv g 8] M1
        refine x_aload_n 0 dX8_areOutputsAnew_14 rfl rfl ?_
        refine x_getr (k := 3) (d := 9) dX8_areOutputsAnew_15 fl8_31 k_0 rfl (fun k5 => ?_)
        have k5 : isK 31 40 9 := k5
        show Ok g mX8_areOutputsAnew (rmd 6) (FQ g (pI (fun z M' => z = 1 ∧ ∀ a k, ¬ (10 ≤ a ∧ a ≤ 12) → M' a k = M a k))) 18 [(0, rv g 0), (1, iv r)] [rv g 9, rv g 8] M1
        refine x_iload_n 1 dX8_areOutputsAnew_18 rfl rfl ?_
        refine x_aald31 dX8_areOutputsAnew_19 k5 (by omega) (by omega) (by decide) (fun k6 => ?_)
        have ek6 : 9 + (139 + 8 * r) = 8 * r + 148 := by omega
        rw [ek6] at k6 ⊢
        refine x_geti (k := 5) (kI := 5) dX8_areOutputsAnew_20 fl8_166 k6 rfl rfl (fun ⟨a7, a7'⟩ => ?_)
        have e8 : M1 (8 * r + 148) 5 = M (8 * r + 148) 5 := (j1 _ _ (by omega))
        simp only [e8] at a7 a7' ⊢
        refine x_aald30 dX8_areOutputsAnew_23 k4 (by omega) (by omega) (by decide) (fun k9 => ?_)
        have ek9 : 8 + (40 + 20 * (M (8 * r + 148) 5)) = 20 * M (8 * r + 148) 5 + 48 := by omega
        rw [ek9] at k9 ⊢
        refine x_astore_n (lv' := [(2, rv g (20 * M (8 * r + 148) 5 + 48)), (0, rv g 0), (1, iv r)]) dX8_areOutputsAnew_24 rfl (Nat.le_of_ble_eq_true rfl) rfl ?_
        refine x_iconst (0) dX8_areOutputsAnew_25 rfl ?_
        refine x_istore_n (lv' := [(3, iv 0), (2, rv g (20 * M (8 * r + 148) 5 + 48)), (0, rv g 0), (1, iv r)]) dX8_areOutputsAnew_26 rfl (Nat.le_of_ble_eq_true rfl) rfl ?_
        have h_27 : ∀ (n_27 : Nat) (M2 : Mem) (t : Int) (kp : isK 4 4 (20 * M (8 * r + 148) 5 + 48)), (∀ a k, ¬ (10 ≤ a ∧ a ≤ 12) → M2 a k = M a k) → (0 ≤ t ∧ t ≤ M (20 * M (8 * r + 148) 5 + 48) 3) → (M (20 * M (8 * r + 148) 5 + 48) 3 - t).toNat < n_27 → Ok g mX8_areOutputsAnew (rmd 6) (FQ g (pI (fun z M' => z = 1 ∧ ∀ a k, ¬ (10 ≤ a ∧ a ≤ 12) → M' a k = M a k))) 27 [(0, rv g 0), (1, iv r), (2, rv g (20 * M (8 * r + 148) 5 + 48)), (3, iv t)] [] M2 := by
          intro n_27
          induction n_27 with
          | zero => intro M2 t kp l1 l2 hn_27; exact absurd hn_27 (Nat.not_lt_zero _)
          | succ n_27 ih_27 =>
            intro M2 t kp l1 l2 hn_27
            refine x_iload_n 3 dX8_areOutputsAnew_27 rfl rfl ?_
            refine x_aload_n 2 dX8_areOutputsAnew_28 rfl rfl ?_
            refine x_geti (k := 3) (kI := 3) dX8_areOutputsAnew_29 fl8_136 kp rfl rfl (fun ⟨a10, a10'⟩ => ?_)
            have e11 : M2 (20 * M (8 * r + 148) 5 + 48) 3 = M (20 * M (8 * r + 148) 5 + 48) 3 := (l1 _ _ (by omega))
            simp only [e11] at a10 a10' ⊢
            refine x_icmp_ge (tgt := 104) dX8_areOutputsAnew_32 (by decide) ⟨by omega, by omega⟩ ⟨by omega, by omega⟩ (fun c12 => ?_) (fun c12 => ?_)
            · refine x_iinc (z := r) (lv' := [(1, iv (r + 1)), (0, rv g 0), (2, rv g (20 * M (8 * r + 148) 5 + 48)), (3, iv t)]) 1 dX8_areOutputsAnew_104 rfl (Nat.le_of_ble_eq_true rfl) rfl ?_
              refine x_goto (tgt := 2) dX8_areOutputsAnew_107 (by decide) ?_
              refine x_sub [1, 0] rfl ?_
              exact ih_2 _ _ (by omega) (by exact l1) (by omega)
            · have hd := hD r t (by omega) (by omega) (by omega) (by omega)
              obtain ⟨-, -, -, -, -, d5, d6, -, d8, d9⟩ := id hd
              refine x_aload_n 0 dX8_areOutputsAnew_35 rfl rfl ?_
              refine x_getr (k := 4) (d := 10) dX8_areOutputsAnew_36 fl8_38 k_0 rfl (fun k13 => ?_)
              have k13 : isK 2 7 10 := k13
              show Ok g mX8_areOutputsAnew (rmd 6) (FQ g (pI (fun z M' => z = 1 ∧ ∀ a k, ¬ (10 ≤ a ∧ a ≤ 12) → M' a k = M a k))) 39 [(0, rv g 0), (1, iv r), (2, rv g (20 * M (8 * r + 148) 5 + 48)), (3, iv t)] [rv g 10] M2
              refine x_aload_n 0 dX8_areOutputsAnew_39 rfl rfl ?_
              refine x_getr (k := 3) (d := 9) dX8_areOutputsAnew_40 fl8_31 k_0 rfl (fun k14 => ?_)
              have k14 : isK 31 40 9 := k14
              show Ok g mX8_areOutputsAnew (rmd 6) (FQ g (pI (fun z M' => z = 1 ∧ ∀ a k, ¬ (10 ≤ a ∧ a ≤ 12) → M' a k = M a k))) 43 [(0, rv g 0), (1, iv r), (2, rv g (20 * M (8 * r + 148) 5 + 48)), (3, iv t)] [rv g 9, rv g 10] M2
              refine x_iload_n 1 dX8_areOutputsAnew_43 rfl rfl ?_
              refine x_aald31 dX8_areOutputsAnew_44 k14 (by omega) (by omega) (by decide) (fun k15 => ?_)
              have ek15 : 9 + (139 + 8 * r) = 8 * r + 148 := by omega
              rw [ek15] at k15 ⊢
              refine x_getr (k := 0) (d := 1) dX8_areOutputsAnew_45 fl8_176 k15 rfl (fun k16 => ?_)
              have ek16 : (8 * r + 148 + 1 : Int) = 8 * r + 149 := by omega
              rw [ek16] at k16 ⊢
              refine x_aload_n 2 dX8_areOutputsAnew_48 rfl rfl ?_
              refine x_getr (k := 0) (d := 1) dX8_areOutputsAnew_49 fl8_139 kp rfl (fun k17 => ?_)
              have ek17 : (20 * M (8 * r + 148) 5 + 48 + 1 : Int) = 20 * M (8 * r + 148) 5 + 49 := by omega
              rw [ek17] at k17 ⊢
              refine x_iload_n 3 dX8_areOutputsAnew_52 rfl rfl ?_
              refine x_aald32 dX8_areOutputsAnew_53 k17 (by omega) (by omega) (by decide) (fun k18 => ?_)
              have ek18 : 20 * M (8 * r + 148) 5 + 49 + (1 + 3 * t) = 20 * M (8 * r + 148) 5 + 3 * t + 50 := by omega
              rw [ek18] at k18 ⊢
              refine x_aload_n 2 dX8_areOutputsAnew_54 rfl rfl ?_
              refine x_geti (k := 2) (kI := 2) dX8_areOutputsAnew_55 fl8_127 kp rfl rfl (fun ⟨a19, a19'⟩ => ?_)
              have e20 : M2 (20 * M (8 * r + 148) 5 + 48) 2 = M (20 * M (8 * r + 148) 5 + 48) 2 := (l1 _ _ (by omega))
              simp only [e20] at a19 a19' ⊢
              refine x_callVV (as := [rv g (8 * r + 149), rv g (20 * M (8 * r + 148) 5 + 3 * t + 50), iv (M (20 * M (8 * r + 148) 5 + 48) 2)]) (rest := []) dX8_areOutputsAnew_58 vl8_336 k13 (c_X2_execute g M2 (8 * r + 149) (20 * M (8 * r + 148) 5 + 3 * t + 50) (M (20 * M (8 * r + 148) 5 + 48) 2) (hd.1.cong (fun a k h => l1 a k (by omega))) (hd.2.1.cong (fun a k h => l1 a k (by omega))) (by omega)) rfl rfl (Nat.le_of_ble_eq_true rfl) ⟨Nat.le_of_ble_eq_true rfl, Nat.le_of_ble_eq_true rfl⟩ (fun M23 h22 => ?_)
              have hx := h22
              have f2 : ∀ a k, ¬ (10 ≤ a ∧ a ≤ 12) → M23 a k = M a k := fun a k h => (hx.1 a k h).trans (l1 a k h)
              have hct := hd.ct (by omega) (by omega) (by omega) f2 hx l1
              refine x_aload_n 0 dX8_areOutputsAnew_61 rfl rfl ?_
              refine x_getr (k := 5) (d := 13) dX8_areOutputsAnew_62 fl8_45 k_0 rfl (fun k24 => ?_)
              have k24 : isK 7 4 13 := k24
              show Ok g mX8_areOutputsAnew (rmd 6) (FQ g (pI (fun z M' => z = 1 ∧ ∀ a k, ¬ (10 ≤ a ∧ a ≤ 12) → M' a k = M a k))) 65 [(0, rv g 0), (1, iv r), (2, rv g (20 * M (8 * r + 148) 5 + 48)), (3, iv t)] [rv g 13] M23
              refine x_aload_n 0 dX8_areOutputsAnew_65 rfl rfl ?_
              refine x_getr (k := 3) (d := 9) dX8_areOutputsAnew_66 fl8_31 k_0 rfl (fun k25 => ?_)
              have k25 : isK 31 40 9 := k25
              show Ok g mX8_areOutputsAnew (rmd 6) (FQ g (pI (fun z M' => z = 1 ∧ ∀ a k, ¬ (10 ≤ a ∧ a ≤ 12) → M' a k = M a k))) 69 [(0, rv g 0), (1, iv r), (2, rv g (20 * M (8 * r + 148) 5 + 48)), (3, iv t)] [rv g 9, rv g 13] M23
              refine x_iload_n 1 dX8_areOutputsAnew_69 rfl rfl ?_
              refine x_aald31 dX8_areOutputsAnew_70 k25 (by omega) (by omega) (by decide) (fun k26 => ?_)
              have ek26 : 9 + (139 + 8 * r) = 8 * r + 148 := by omega
              rw [ek26] at k26 ⊢
              refine x_getr (k := 3) (d := 7) dX8_areOutputsAnew_71 fl8_212 k26 rfl (fun k27 => ?_)
              have ek27 : (8 * r + 148 + 7 : Int) = 8 * r + 155 := by omega
              rw [ek27] at k27 ⊢
              refine x_iload_n 3 dX8_areOutputsAnew_74 rfl rfl ?_
              refine x_iald dX8_areOutputsAnew_75 k27 (by omega) (by omega) (by decide) (fun ⟨a28, a28'⟩ => ?_)
              have e29 : M23 (8 * r + 155) t = M (8 * r + 155) t := (f2 _ _ (by omega))
              simp only [e29] at a28 a28' ⊢
              refine x_aload_n 0 dX8_areOutputsAnew_76 rfl rfl ?_
              refine x_getr (k := 4) (d := 10) dX8_areOutputsAnew_77 fl8_38 k_0 rfl (fun k30 => ?_)
              have k30 : isK 2 7 10 := k30
              show Ok g mX8_areOutputsAnew (rmd 6) (FQ g (pI (fun z M' => z = 1 ∧ ∀ a k, ¬ (10 ≤ a ∧ a ≤ 12) → M' a k = M a k))) 80 [(0, rv g 0), (1, iv r), (2, rv g (20 * M (8 * r + 148) 5 + 48)), (3, iv t)] [rv g 10, iv (M (8 * r + 155) t), rv g 13] M23
              refine x_getr (k := 1) (d := 2) dX8_areOutputsAnew_80 fl8_343 k30 rfl (fun k31 => ?_)
              have k31 : isK 20 6 12 := k31
              show Ok g mX8_areOutputsAnew (rmd 6) (FQ g (pI (fun z M' => z = 1 ∧ ∀ a k, ¬ (10 ≤ a ∧ a ≤ 12) → M' a k = M a k))) 83 [(0, rv g 0), (1, iv r), (2, rv g (20 * M (8 * r + 148) 5 + 48)), (3, iv t)] [rv g 12, iv (M (8 * r + 155) t), rv g 13] M23
              refine x_aload_n 0 dX8_areOutputsAnew_83 rfl rfl ?_
              refine x_getr (k := 4) (d := 10) dX8_areOutputsAnew_84 fl8_38 k_0 rfl (fun k32 => ?_)
              have k32 : isK 2 7 10 := k32
              show Ok g mX8_areOutputsAnew (rmd 6) (FQ g (pI (fun z M' => z = 1 ∧ ∀ a k, ¬ (10 ≤ a ∧ a ≤ 12) → M' a k = M a k))) 87 [(0, rv g 0), (1, iv r), (2, rv g (20 * M (8 * r + 148) 5 + 48)), (3, iv t)] [rv g 10, rv g 12, iv (M (8 * r + 155) t), rv g 13] M23
              refine x_geti (k := 2) (kI := 2) dX8_areOutputsAnew_87 fl8_346 k32 rfl rfl (fun ⟨a33, a33'⟩ => ?_)
              refine x_callVIP (as := [iv (M (8 * r + 155) t), rv g 12, iv (M23 10 2)]) (rest := []) dX8_areOutputsAnew_90 vl8_366 k24 (c_X7_isAlike g M23 (M (8 * r + 155) t) (M23 10 2) ⟨by omega, by omega⟩ ⟨by rw [hx.2.1, JA_cong (M := M) (fun a k h => l1 a k (by omega))]; omega, by rw [hx.2.1, JA_cong (M := M) (fun a k h => l1 a k (by omega))]; omega⟩) rfl rfl (Nat.le_of_ble_eq_true rfl) ⟨Nat.le_of_ble_eq_true rfl, Nat.le_of_ble_eq_true rfl⟩ (fun z34 h35 => ?_)
              have hl := h35
              refine x_if_ne (tgt := 98) dX8_areOutputsAnew_93 (by decide) ⟨by omega, by omega⟩ (fun c37 => ?_) (fun c37 => ?_)
              · refine x_iinc (z := t) (lv' := [(3, iv (t + 1)), (0, rv g 0), (1, iv r), (2, rv g (20 * M (8 * r + 148) 5 + 48))]) 3 dX8_areOutputsAnew_98 rfl (Nat.le_of_ble_eq_true rfl) rfl ?_
                refine x_goto (tgt := 27) dX8_areOutputsAnew_101 (by decide) ?_
                refine x_sub [1, 2, 3, 0] rfl ?_
                exact ih_27 _ _ (kp) (by exact f2) (by omega) (by omega)
              · refine x_iconst (0) dX8_areOutputsAnew_96 rfl ?_
                refine x_iret dX8_areOutputsAnew_97 rfl (iZ_bool (by omega)) ?_
                rcases hl with ⟨w, _⟩ | ⟨_, w⟩; omega; exact absurd hct w
        refine x_sub [2, 3, 1, 0] rfl ?_
        exact h_27 _ _ _ (k9) (by exact j1) (by omega) (Nat.lt_succ_self _)
  refine x_iconst (0) dX8_areOutputsAnew_0 rfl ?_
  refine x_istore_n (lv' := [(1, iv 0), (0, rv g 0)]) dX8_areOutputsAnew_1 rfl (Nat.le_of_ble_eq_true rfl) rfl ?_
  refine x_sub [1, 0] rfl ?_
  exact h_2 _ _ _ (by omega) (by intro a k _; rfl) (Nat.lt_succ_self _)
