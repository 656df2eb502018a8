set_option maxHeartbeats 600000 in
set_option maxRecDepth 100000 in
theorem c_X9_acceptedShare (g : GG) (M : Mem)  (I : RB M) : Ct g yX9_acceptedShare cX9_acceptedShare 3 (some .float) 3 [rv g 468] M (pF (fun x M' => (M 468 18 = 0 ∧ M' = up M 468 0 1) ∨ (M 468 18 ≠ 0 ∧ x = FP.fdiv (FP.i2f (iZ (cnt (fun r => vz M r = 97) (M 468 18)))) (FP.i2f (iZ (M 468 18))) ∧ M' = up M 468 0 0))) := by
  refine ct_of (by decide +kernel) (Nat.le_of_ble_eq_true rfl) ?_
  show Ok g mX9_acceptedShare (rmd 3) (FQ g (pF (fun x M' => (M 468 18 = 0 ∧ M' = up M 468 0 1) ∨ (M 468 18 ≠ 0 ∧ x = FP.fdiv (FP.i2f (iZ (cnt (fun r => vz M r = 97) (M 468 18)))) (FP.i2f (iZ (M 468 18))) ∧ M' = up M 468 0 0)))) 0 [(0, rv g 468)] [] M
  have i0 := I.rng
  have h_4 : ∀ (n_4 : Nat) (n : Int) (i : Int), (0 ≤ i ∧ i ≤ M 468 18) → (n = cnt (fun r => vz M r = 97) i) → (M 468 18 - i).toNat < n_4 → Ok g mX9_acceptedShare (rmd 3) (FQ g (pF (fun x M' => (M 468 18 = 0 ∧ M' = up M 468 0 1) ∨ (M 468 18 ≠ 0 ∧ x = FP.fdiv (FP.i2f (iZ (cnt (fun r => vz M r = 97) (M 468 18)))) (FP.i2f (iZ (M 468 18))) ∧ M' = up M 468 0 0)))) 4 [(0, rv g 468), (1, iv n), (2, iv i)] [] M := by
    intro n_4
    induction n_4 with
    | zero => intro n i j0 j1 hn_4; exact absurd hn_4 (Nat.not_lt_zero _)
    | succ n_4 ih_4 =>
      intro n i j0 j1 hn_4
      refine x_iload_n 2 dX9_acceptedShare_4 rfl rfl ?_
      refine x_aload_n 0 dX9_acceptedShare_5 rfl rfl ?_
      refine x_geti (k := 18) (kI := 18) dX9_acceptedShare_6 fl9_130 k_468 rfl rfl (fun ⟨a1, a1'⟩ => ?_)
      refine x_icmp_ge (tgt := 36) dX9_acceptedShare_9 (by decide) ⟨by omega, by omega⟩ ⟨by omega, by omega⟩ (fun c2 => ?_) (fun c2 => ?_)
      · have e9 : i = M 468 18 := by omega
        subst j1
        subst e9
        refine x_aload_n 0 dX9_acceptedShare_36 rfl rfl ?_
        refine x_aload_n 0 dX9_acceptedShare_37 rfl rfl ?_
        refine x_geti (k := 18) (kI := 18) dX9_acceptedShare_38 fl9_130 k_468 rfl rfl (fun ⟨a3, a3'⟩ => ?_)
        refine x_if_ne (tgt := 48) dX9_acceptedShare_41 (by decide) ⟨by omega, by omega⟩ (fun c4 => ?_) (fun c4 => ?_)
        · refine x_iconst (0) dX9_acceptedShare_48 rfl ?_
          refine x_callVIP (as := [iv 0]) (rest := []) dX9_acceptedShare_49 vl9_114 k_468 (c_X9_fails g M 0 (by omega) (by omega)) rfl rfl (Nat.le_of_ble_eq_true rfl) ⟨Nat.le_of_ble_eq_true rfl, Nat.le_of_ble_eq_true rfl⟩ (fun z5 h6 => ?_)
          refine x_if_eq (tgt := 59) dX9_acceptedShare_52 (by decide) ⟨by omega, by omega⟩ (fun c8 => ?_) (fun c8 => ?_)
          · refine x_iload_n 1 dX9_acceptedShare_59 rfl rfl ?_
            refine x_i2f dX9_acceptedShare_60 ?_
            refine x_aload_n 0 dX9_acceptedShare_61 rfl rfl ?_
            refine x_geti (k := 18) (kI := 18) dX9_acceptedShare_62 fl9_130 k_468 rfl rfl (fun ⟨a9, a9'⟩ => ?_)
            have e10 : (up M 468 0 0) 468 18 = M 468 18 := (by simp (disch := omega) only [up_s, up_o, up_k])
            simp only [e10] at a9 a9' ⊢
            refine x_i2f dX9_acceptedShare_65 ?_
            refine x_fdiv dX9_acceptedShare_66 (fq_ok ⟨by omega, by omega⟩ (by omega)) ?_
            refine x_fret dX9_acceptedShare_67 rfl ?_
            exact ⟨_, rfl, Or.inr ⟨by omega, rfl, rfl⟩⟩
          · refine x_fconst0 dX9_acceptedShare_55 ?_
            refine x_goto (tgt := 67) dX9_acceptedShare_56 (by decide) ?_
            refine x_fret dX9_acceptedShare_67 rfl ?_
            exfalso; omega
        · refine x_iconst (1) dX9_acceptedShare_44 rfl ?_
          refine x_goto (tgt := 49) dX9_acceptedShare_45 (by decide) ?_
          refine x_callVIP (as := [iv 1]) (rest := []) dX9_acceptedShare_49 vl9_114 k_468 (c_X9_fails g M 1 (by omega) (by omega)) rfl rfl (Nat.le_of_ble_eq_true rfl) ⟨Nat.le_of_ble_eq_true rfl, Nat.le_of_ble_eq_true rfl⟩ (fun z11 h12 => ?_)
          refine x_if_eq (tgt := 59) dX9_acceptedShare_52 (by decide) ⟨by omega, by omega⟩ (fun c14 => ?_) (fun c14 => ?_)
          · refine x_iload_n 1 dX9_acceptedShare_59 rfl rfl ?_
            refine x_i2f dX9_acceptedShare_60 ?_
            refine x_aload_n 0 dX9_acceptedShare_61 rfl rfl ?_
            refine x_geti (k := 18) (kI := 18) dX9_acceptedShare_62 fl9_130 k_468 rfl rfl (fun ⟨a15, a15'⟩ => ?_)
            have e16 : (up M 468 0 1) 468 18 = M 468 18 := (by simp (disch := omega) only [up_s, up_o, up_k])
            simp only [e16] at a15 a15' ⊢
            refine x_i2f dX9_acceptedShare_65 ?_
            refine x_fdiv dX9_acceptedShare_66 (fq_ok ⟨by omega, by omega⟩ (by omega)) ?_
            refine x_fret dX9_acceptedShare_67 rfl ?_
            exfalso; omega
          · refine x_fconst0 dX9_acceptedShare_55 ?_
            refine x_goto (tgt := 67) dX9_acceptedShare_56 (by decide) ?_
            refine x_fret dX9_acceptedShare_67 rfl ?_
            exact ⟨_, rfl, Or.inl ⟨by omega, rfl⟩⟩
      · refine x_iload_n 1 dX9_acceptedShare_12 rfl rfl ?_
        refine x_aload_n 0 dX9_acceptedShare_13 rfl rfl ?_
        refine x_iload_n 2 dX9_acceptedShare_14 rfl rfl ?_
        refine x_callVIP (as := [iv i]) (rest := [iv n]) dX9_acceptedShare_15 vl9_160 k_468 (c_X9_verdictOf g M i I (by omega) (by omega)) rfl rfl (Nat.le_of_ble_eq_true rfl) ⟨Nat.le_of_ble_eq_true rfl, Nat.le_of_ble_eq_true rfl⟩ (fun z17 h18 => ?_)
        have hv := h18
        refine x_bipush (97) dX9_acceptedShare_18 rfl ?_
        refine x_icmp_ne (tgt := 27) dX9_acceptedShare_20 (by decide) ⟨by omega, by omega⟩ ⟨by decide, by decide⟩ (fun c20 => ?_) (fun c20 => ?_)
        · refine x_iconst (0) dX9_acceptedShare_27 rfl ?_
          refine x_iadd dX9_acceptedShare_28 ?_
          refine x_istore_n (lv' := [(1, iv (n + 0)), (0, rv g 468), (2, iv i)]) dX9_acceptedShare_29 rfl (Nat.le_of_ble_eq_true rfl) rfl ?_
          refine x_iinc (z := i) (lv' := [(2, iv (i + 1)), (1, iv (n + 0)), (0, rv g 468)]) 2 dX9_acceptedShare_30 rfl (Nat.le_of_ble_eq_true rfl) rfl ?_
          refine x_goto (tgt := 4) dX9_acceptedShare_33 (by decide) ?_
          refine x_sub [2, 1, 0] rfl ?_
          exact ih_4 _ _ (by omega) (by rw [cnt_f (by omega) (by show ¬ vz M i = 97; omega)]; omega) (by omega)
        · refine x_iconst (1) dX9_acceptedShare_23 rfl ?_
          refine x_goto (tgt := 28) dX9_acceptedShare_24 (by decide) ?_
          refine x_iadd dX9_acceptedShare_28 ?_
          refine x_istore_n (lv' := [(1, iv (n + 1)), (0, rv g 468), (2, iv i)]) dX9_acceptedShare_29 rfl (Nat.le_of_ble_eq_true rfl) rfl ?_
          refine x_iinc (z := i) (lv' := [(2, iv (i + 1)), (1, iv (n + 1)), (0, rv g 468)]) 2 dX9_acceptedShare_30 rfl (Nat.le_of_ble_eq_true rfl) rfl ?_
          refine x_goto (tgt := 4) dX9_acceptedShare_33 (by decide) ?_
          refine x_sub [2, 1, 0] rfl ?_
          exact ih_4 _ _ (by omega) (by rw [cnt_t (by omega) (by show vz M i = 97; omega)]; omega) (by omega)
  refine x_iconst (0) dX9_acceptedShare_0 rfl ?_
  refine x_istore_n (lv' := [(1, iv 0), (0, rv g 468)]) dX9_acceptedShare_1 rfl (Nat.le_of_ble_eq_true rfl) rfl ?_
  refine x_iconst (0) dX9_acceptedShare_2 rfl ?_
  refine x_istore_n (lv' := [(2, iv 0), (1, iv 0), (0, rv g 468)]) dX9_acceptedShare_3 rfl (Nat.le_of_ble_eq_true rfl) rfl ?_
  refine x_sub [2, 1, 0] rfl ?_
  exact h_4 _ _ _ (by omega) (by exact (cnt_0 _).symm) (Nat.lt_succ_self _)

set_option maxHeartbeats 600000 in
set_option maxRecDepth 100000 in
theorem c_X9_meanSteps (g : GG) (M : Mem)  (I : RB M) : Ct g yX9_meanSteps cX9_meanSteps 5 (some .double) 3 [rv g 468] M (pD (fun x M' => (sm (fun r => M 476 (M 482 r)) (M 468 18) = 0 ∧ M' = up M 468 0 1) ∨ (sm (fun r => M 476 (M 482 r)) (M 468 18) ≠ 0 ∧ x = FP.ddiv (FP.i2d (iZ (sm (fun r => sm (fun t => M 489 (6 * r + t)) (M 476 (M 482 r))) (M 468 18)))) (FP.i2d (iZ (sm (fun r => M 476 (M 482 r)) (M 468 18)))) ∧ M' = up M 468 0 0))) := by
  refine ct_of (by decide +kernel) (Nat.le_of_ble_eq_true rfl) ?_
  show Ok g mX9_meanSteps (rmd 3) (FQ g (pD (fun x M' => (sm (fun r => M 476 (M 482 r)) (M 468 18) = 0 ∧ M' = up M 468 0 1) ∨ (sm (fun r => M 476 (M 482 r)) (M 468 18) ≠ 0 ∧ x = FP.ddiv (FP.i2d (iZ (sm (fun r => sm (fun t => M 489 (6 * r + t)) (M 476 (M 482 r))) (M 468 18)))) (FP.i2d (iZ (sm (fun r => M 476 (M 482 r)) (M 468 18)))) ∧ M' = up M 468 0 0)))) 0 [(0, rv g 468)] [] M
  have i0 := I.rng
  have h_6 : ∀ (n_6 : Nat) (n : Int) (s : Int) (r : Int), (0 ≤ r ∧ r ≤ M 468 18) → (s = sm (fun r => sm (fun t => M 489 (6 * r + t)) (M 476 (M 482 r))) r) → (n = sm (fun r => M 476 (M 482 r)) r) → (0 ≤ n ∧ n ≤ 6 * r) → (M 468 18 - r).toNat < n_6 → Ok g mX9_meanSteps (rmd 3) (FQ g (pD (fun x M' => (sm (fun r => M 476 (M 482 r)) (M 468 18) = 0 ∧ M' = up M 468 0 1) ∨ (sm (fun r => M 476 (M 482 r)) (M 468 18) ≠ 0 ∧ x = FP.ddiv (FP.i2d (iZ (sm (fun r => sm (fun t => M 489 (6 * r + t)) (M 476 (M 482 r))) (M 468 18)))) (FP.i2d (iZ (sm (fun r => M 476 (M 482 r)) (M 468 18)))) ∧ M' = up M 468 0 0)))) 6 [(0, rv g 468), (1, iv n), (2, iv s), (3, iv r)] [] M := by
    intro n_6
    induction n_6 with
    | zero => intro n s r j0 j1 j2 j3 hn_6; exact absurd hn_6 (Nat.not_lt_zero _)
    | succ n_6 ih_6 =>
      intro n s r j0 j1 j2 j3 hn_6
      refine x_iload_n 3 dX9_meanSteps_6 rfl rfl ?_
      refine x_aload_n 0 dX9_meanSteps_7 rfl rfl ?_
      refine x_geti (k := 18) (kI := 18) dX9_meanSteps_8 fl9_130 k_468 rfl rfl (fun ⟨a1, a1'⟩ => ?_)
      refine x_icmp_ge (tgt := 63) dX9_meanSteps_11 (by decide) ⟨by omega, by omega⟩ ⟨by omega, by omega⟩ (fun c2 => ?_) (fun c2 => ?_)
      · have e9 : r = M 468 18 := by omega
        subst j1
        subst e9
        refine x_aload_n 0 dX9_meanSteps_63 rfl rfl ?_
        refine x_iload_n 1 dX9_meanSteps_64 rfl rfl ?_
        refine x_if_ne (tgt := 72) dX9_meanSteps_65 (by decide) ⟨by omega, by omega⟩ (fun c3 => ?_) (fun c3 => ?_)
        · refine x_iconst (0) dX9_meanSteps_72 rfl ?_
          refine x_callVIP (as := [iv 0]) (rest := []) dX9_meanSteps_73 vl9_114 k_468 (c_X9_fails g M 0 (by omega) (by omega)) rfl rfl (Nat.le_of_ble_eq_true rfl) ⟨Nat.le_of_ble_eq_true rfl, Nat.le_of_ble_eq_true rfl⟩ (fun z4 h5 => ?_)
          refine x_if_eq (tgt := 83) dX9_meanSteps_76 (by decide) ⟨by omega, by omega⟩ (fun c7 => ?_) (fun c7 => ?_)
          · refine x_iload_n 2 dX9_meanSteps_83 rfl rfl ?_
            refine x_i2d dX9_meanSteps_84 ?_
            refine x_iload_n 1 dX9_meanSteps_85 rfl rfl ?_
            refine x_i2d dX9_meanSteps_86 ?_
            refine x_ddiv dX9_meanSteps_87 (dq_ok ⟨by omega, by omega⟩ (by omega)) ?_
            refine x_dret dX9_meanSteps_88 rfl ?_
            exact ⟨_, rfl, Or.inr ⟨by omega, by rw [← j2], rfl⟩⟩
          · refine x_dconst0 dX9_meanSteps_79 ?_
            refine x_goto (tgt := 88) dX9_meanSteps_80 (by decide) ?_
            refine x_dret dX9_meanSteps_88 rfl ?_
            exfalso; omega
        · refine x_iconst (1) dX9_meanSteps_68 rfl ?_
          refine x_goto (tgt := 73) dX9_meanSteps_69 (by decide) ?_
          refine x_callVIP (as := [iv 1]) (rest := []) dX9_meanSteps_73 vl9_114 k_468 (c_X9_fails g M 1 (by omega) (by omega)) rfl rfl (Nat.le_of_ble_eq_true rfl) ⟨Nat.le_of_ble_eq_true rfl, Nat.le_of_ble_eq_true rfl⟩ (fun z8 h9 => ?_)
          refine x_if_eq (tgt := 83) dX9_meanSteps_76 (by decide) ⟨by omega, by omega⟩ (fun c11 => ?_) (fun c11 => ?_)
          · refine x_iload_n 2 dX9_meanSteps_83 rfl rfl ?_
            refine x_i2d dX9_meanSteps_84 ?_
            refine x_iload_n 1 dX9_meanSteps_85 rfl rfl ?_
            refine x_i2d dX9_meanSteps_86 ?_
            refine x_ddiv dX9_meanSteps_87 (dq_ok ⟨by omega, by omega⟩ (by omega)) ?_
            refine x_dret dX9_meanSteps_88 rfl ?_
            exfalso; omega
          · refine x_dconst0 dX9_meanSteps_79 ?_
            refine x_goto (tgt := 88) dX9_meanSteps_80 (by decide) ?_
            refine x_dret dX9_meanSteps_88 rfl ?_
            exact ⟨_, rfl, Or.inl ⟨by omega, rfl⟩⟩
      · have i1 := I.run r (by omega) (by omega)
        have i2 := I.prob (M 482 r) (by omega) (by omega)
        refine x_iconst (0) dX9_meanSteps_14 rfl ?_
        refine x_istore (lv' := [(4, iv 0), (0, rv g 468), (1, iv n), (2, iv s), (3, iv r)]) dX9_meanSteps_15 (Nat.le_of_ble_eq_true rfl) rfl ?_
        have h_17 : ∀ (n_17 : Nat) (v : Int) (u : Int) (t : Int), (0 ≤ t ∧ t ≤ M 476 (M 482 r)) → (u = s + sm (fun t => M 489 (6 * r + t)) t) → (v = n + t) → (M 476 (M 482 r) - t).toNat < n_17 → Ok g mX9_meanSteps (rmd 3) (FQ g (pD (fun x M' => (sm (fun r => M 476 (M 482 r)) (M 468 18) = 0 ∧ M' = up M 468 0 1) ∨ (sm (fun r => M 476 (M 482 r)) (M 468 18) ≠ 0 ∧ x = FP.ddiv (FP.i2d (iZ (sm (fun r => sm (fun t => M 489 (6 * r + t)) (M 476 (M 482 r))) (M 468 18)))) (FP.i2d (iZ (sm (fun r => M 476 (M 482 r)) (M 468 18)))) ∧ M' = up M 468 0 0)))) 17 [(0, rv g 468), (1, iv v), (2, iv u), (3, iv r), (4, iv t)] [] M := by
          intro n_17
          induction n_17 with
          | zero => intro v u t l0 l2 l3 hn_17; exact absurd hn_17 (Nat.not_lt_zero _)
          | succ n_17 ih_17 =>
            intro v u t l0 l2 l3 hn_17
            refine x_iload 4 dX9_meanSteps_17 rfl ?_
            refine x_aload_n 0 dX9_meanSteps_19 rfl rfl ?_
            refine x_getr (k := 12) (d := 8) dX9_meanSteps_20 fl9_32 k_468 rfl (fun k12 => ?_)
            have k12 : isK 20 5 476 := k12
            show Ok g mX9_meanSteps (rmd 3) (FQ g (pD (fun x M' => (sm (fun r => M 476 (M 482 r)) (M 468 18) = 0 ∧ M' = up M 468 0 1) ∨ (sm (fun r => M 476 (M 482 r)) (M 468 18) ≠ 0 ∧ x = FP.ddiv (FP.i2d (iZ (sm (fun r => sm (fun t => M 489 (6 * r + t)) (M 476 (M 482 r))) (M 468 18)))) (FP.i2d (iZ (sm (fun r => M 476 (M 482 r)) (M 468 18)))) ∧ M' = up M 468 0 0)))) 23 [(0, rv g 468), (1, iv v), (2, iv u), (3, iv r), (4, iv t)] [rv g 476, iv t] M
            refine x_aload_n 0 dX9_meanSteps_23 rfl rfl ?_
            refine x_getr (k := 20) (d := 14) dX9_meanSteps_24 fl9_50 k_468 rfl (fun k13 => ?_)
            have k13 : isK 20 40 482 := k13
            show Ok g mX9_meanSteps (rmd 3) (FQ g (pD (fun x M' => (sm (fun r => M 476 (M 482 r)) (M 468 18) = 0 ∧ M' = up M 468 0 1) ∨ (sm (fun r => M 476 (M 482 r)) (M 468 18) ≠ 0 ∧ x = FP.ddiv (FP.i2d (iZ (sm (fun r => sm (fun t => M 489 (6 * r + t)) (M 476 (M 482 r))) (M 468 18)))) (FP.i2d (iZ (sm (fun r => M 476 (M 482 r)) (M 468 18)))) ∧ M' = up M 468 0 0)))) 27 [(0, rv g 468), (1, iv v), (2, iv u), (3, iv r), (4, iv t)] [rv g 482, rv g 476, iv t] M
            refine x_iload_n 3 dX9_meanSteps_27 rfl rfl ?_
            refine x_iald dX9_meanSteps_28 k13 (by omega) (by omega) (by decide) (fun ⟨a14, a14'⟩ => ?_)
            refine x_iald dX9_meanSteps_29 k12 (by omega) (by omega) (by decide) (fun ⟨a15, a15'⟩ => ?_)
            refine x_icmp_ge (tgt := 57) dX9_meanSteps_30 (by decide) ⟨by omega, by omega⟩ ⟨by omega, by omega⟩ (fun c16 => ?_) (fun c16 => ?_)
            · refine x_iinc (z := r) (lv' := [(3, iv (r + 1)), (0, rv g 468), (1, iv v), (2, iv u), (4, iv t)]) 3 dX9_meanSteps_57 rfl (Nat.le_of_ble_eq_true rfl) rfl ?_
              refine x_goto (tgt := 6) dX9_meanSteps_60 (by decide) ?_
              refine x_sub [1, 2, 3, 0] rfl ?_
              exact ih_6 _ _ _ (by omega) (by rw [sm_s (by omega), ← j1, l2, show t = M 476 (M 482 r) by omega]) (by rw [sm_s (by omega), ← j2, l3]; omega) (by omega) (by omega)
            · refine x_iinc (z := v) (lv' := [(1, iv (v + 1)), (0, rv g 468), (2, iv u), (3, iv r), (4, iv t)]) 1 dX9_meanSteps_33 rfl (Nat.le_of_ble_eq_true rfl) rfl ?_
              refine x_iload_n 2 dX9_meanSteps_36 rfl rfl ?_
              refine x_aload_n 1 dX9_meanSteps_37 rfl rfl ?_
              refine x_getr (k := 27) (d := 21) dX9_meanSteps_38 fl9_71 k_468 rfl (fun k17 => ?_)
              have k17 : isK 20 240 489 := k17
              show Ok g mX9_meanSteps (rmd 3) (FQ g (pD (fun x M' => (sm (fun r => M 476 (M 482 r)) (M 468 18) = 0 ∧ M' = up M 468 0 1) ∨ (sm (fun r => M 476 (M 482 r)) (M 468 18) ≠ 0 ∧ x = FP.ddiv (FP.i2d (iZ (sm (fun r => sm (fun t => M 489 (6 * r + t)) (M 476 (M 482 r))) (M 468 18)))) (FP.i2d (iZ (sm (fun r => M 476 (M 482 r)) (M 468 18)))) ∧ M' = up M 468 0 0)))) 41 [(1, iv (v + 1)), (0, rv g 468), (2, iv u), (3, iv r), (4, iv t)] [rv g 489, iv u] M
              refine x_bipush (6) dX9_meanSteps_41 rfl ?_
              refine x_iload_n 3 dX9_meanSteps_43 rfl rfl ?_
              refine x_imul dX9_meanSteps_44 ?_
              refine x_iload 4 dX9_meanSteps_45 rfl ?_
              refine x_iadd dX9_meanSteps_47 ?_
              refine x_iald dX9_meanSteps_48 k17 (by omega) (by omega) (by decide) (fun ⟨a18, a18'⟩ => ?_)
              refine x_iadd dX9_meanSteps_49 ?_
              refine x_istore_n (lv' := [(2, iv (u + (M 489 ((6 * r) + t)))), (1, iv (v + 1)), (0, rv g 468), (3, iv r), (4, iv t)]) dX9_meanSteps_50 rfl (Nat.le_of_ble_eq_true rfl) rfl ?_
              refine x_iinc (z := t) (lv' := [(4, iv (t + 1)), (2, iv (u + (M 489 ((6 * r) + t)))), (1, iv (v + 1)), (0, rv g 468), (3, iv r)]) 4 dX9_meanSteps_51 rfl (Nat.le_of_ble_eq_true rfl) rfl ?_
              refine x_goto (tgt := 17) dX9_meanSteps_54 (by decide) ?_
              refine x_sub [3, 2, 1, 4, 0] rfl ?_
              exact ih_17 _ _ _ (by omega) (by rw [sm_s (by omega), l2]; omega) (by omega) (by omega)
        refine x_sub [1, 2, 3, 4, 0] rfl ?_
        exact h_17 _ _ _ _ (by omega) (by show _ = _ + 0; omega) (by omega) (Nat.lt_succ_self _)
  refine x_iconst (0) dX9_meanSteps_0 rfl ?_
  refine x_istore_n (lv' := [(1, iv 0), (0, rv g 468)]) dX9_meanSteps_1 rfl (Nat.le_of_ble_eq_true rfl) rfl ?_
  refine x_iconst (0) dX9_meanSteps_2 rfl ?_
  refine x_istore_n (lv' := [(2, iv 0), (1, iv 0), (0, rv g 468)]) dX9_meanSteps_3 rfl (Nat.le_of_ble_eq_true rfl) rfl ?_
  refine x_iconst (0) dX9_meanSteps_4 rfl ?_
  refine x_istore_n (lv' := [(3, iv 0), (2, iv 0), (1, iv 0), (0, rv g 468)]) dX9_meanSteps_5 rfl (Nat.le_of_ble_eq_true rfl) rfl ?_
  refine x_sub [3, 2, 1, 0] rfl ?_
  exact h_6 _ _ _ _ (by omega) (by rfl) (by rfl) (by omega) (Nat.lt_succ_self _)
