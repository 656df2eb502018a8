set_option maxHeartbeats 600000 in
set_option maxRecDepth 100000 in
theorem c_X9_lays (g : GG) (M : Mem) (p t : Int) (n0 : 0 ≤ M 468 5) (n1 : M 468 5 ≤ 4) (e0 : 0 ≤ M 468 6) (e1 : M 468 6 ≤ 6) (p0 : 0 ≤ p) (p1 : p < 5) (t0 : 0 ≤ t) (t1 : t < 6) : Ct g yX9_lays cX9_lays 4 none 0 [rv g 468, iv p, iv t] M (pV (fun M' => LYS M p t M')) := by
  refine ct_of (by decide +kernel) (Nat.le_of_ble_eq_true rfl) ?_
  show Ok g mX9_lays (rmd 0) (FQ g (pV (fun M' => LYS M p t M'))) 0 [(0, rv g 468), (1, iv p), (2, iv t)] [] M
  have h_69 : ∀ (n_69 : Nat) (M2 : Mem) (k : Int), (0 ≤ k ∧ k ≤ M 468 6) → (M2 478 (6 * p + t) = M 468 5 ∧ M2 480 (6 * p + t) = M 468 6) → (∀ j, 0 ≤ j → j < M 468 5 → M2 477 (24 * p + 4 * t + j) = M 472 j) → (∀ j, 0 ≤ j → j < k → M2 479 (36 * p + 6 * t + j) = M 473 j) → (∀ o j, ¬ LYf p t o j → M2 o j = M o j) → (M 468 6 - k).toNat < n_69 → Ok g mX9_lays (rmd 0) (FQ g (pV (fun M' => LYS M p t M'))) 69 [(0, rv g 468), (1, iv p), (2, iv t), (3, iv k)] [] M2 := by
    intro n_69
    induction n_69 with
    | zero => intro M2 k l0 l1 l2 l4 l3 hn_69; exact absurd hn_69 (Nat.not_lt_zero _)
    | succ n_69 ih_69 =>
      intro M2 k l0 l1 l2 l4 l3 hn_69
      refine x_iload_n 3 dX9_lays_69 rfl rfl ?_
      refine x_aload_n 0 dX9_lays_70 rfl rfl ?_
      refine x_geti (k := 6) (kI := 6) dX9_lays_71 fl9_118 k_468 rfl rfl (fun ⟨a1, a1'⟩ => ?_)
      have e2 : M2 468 6 = M 468 6 := (l3 _ _ (by unfold LYf; omega))
      simp only [e2] at a1 a1' ⊢
      refine x_icmp_ge (tgt := 105) dX9_lays_74 (by decide) ⟨by omega, by omega⟩ ⟨by omega, by omega⟩ (fun c3 => ?_) (fun c3 => ?_)
      · refine x_vret dX9_lays_105 rfl ?_
        exact ⟨rfl, l1.1, l1.2, l2, fun j x0 x1 => l4 j x0 (by omega), l3⟩
      · refine x_aload_n 0 dX9_lays_77 rfl rfl ?_
        refine x_getr (k := 15) (d := 11) dX9_lays_78 fl9_41 k_468 rfl (fun k4 => ?_)
        have k4 : isK 20 180 479 := k4
        show Ok g mX9_lays (rmd 0) (FQ g (pV (fun M' => LYS M p t M'))) 81 [(0, rv g 468), (1, iv p), (2, iv t), (3, iv k)] [rv g 479] M2
        refine x_bipush (36) dX9_lays_81 rfl ?_
        refine x_iload_n 1 dX9_lays_83 rfl rfl ?_
        refine x_imul dX9_lays_84 ?_
        refine x_bipush (6) dX9_lays_85 rfl ?_
        refine x_iload_n 2 dX9_lays_87 rfl rfl ?_
        refine x_imul dX9_lays_88 ?_
        refine x_iadd dX9_lays_89 ?_
        refine x_iload_n 3 dX9_lays_90 rfl rfl ?_
        refine x_iadd dX9_lays_91 ?_
        refine x_aload_n 0 dX9_lays_92 rfl rfl ?_
        refine x_getr (k := 8) (d := 5) dX9_lays_93 fl9_23 k_468 rfl (fun k5 => ?_)
        have k5 : isK 20 6 473 := k5
        show Ok g mX9_lays (rmd 0) (FQ g (pV (fun M' => LYS M p t M'))) 96 [(0, rv g 468), (1, iv p), (2, iv t), (3, iv k)] [rv g 473, iv (((36 * p) + (6 * t)) + k), rv g 479] M2
        refine x_iload_n 3 dX9_lays_96 rfl rfl ?_
        refine x_iald dX9_lays_97 k5 (by omega) (by omega) (by decide) (fun ⟨a6, a6'⟩ => ?_)
        have e7 : M2 473 k = M 473 k := (l3 _ _ (by unfold LYf; omega))
        simp only [e7] at a6 a6' ⊢
        refine x_iast dX9_lays_98 k4 (by omega) (by omega) (by decide) ⟨by omega, by omega⟩ ?_
        refine x_iinc (z := k) (lv' := [(3, iv (k + 1)), (0, rv g 468), (1, iv p), (2, iv t)]) 3 dX9_lays_99 rfl (Nat.le_of_ble_eq_true rfl) rfl ?_
        refine x_goto (tgt := 69) dX9_lays_102 (by decide) ?_
        refine x_sub [1, 2, 3, 0] rfl ?_
        exact ih_69 _ _ (by omega) (by refine ⟨(up_o (by omega)).trans l1.1, (up_o (by omega)).trans l1.2⟩) (by intro j x0 x1; rw [up_o (by omega)]; exact l2 j x0 x1) (by intro j x0 x1; by_cases e : j = k; rw [e, up_s]; rw [up_k (by omega)]; exact l4 j x0 (by omega)) (by intro o j h; rw [up_n (by unfold LYf at h; omega)]; exact l3 o j h) (by omega)
  have h_32 : ∀ (n_32 : Nat) (M1 : Mem) (k : Int), (0 ≤ k ∧ k ≤ M 468 5) → (M1 478 (6 * p + t) = M 468 5 ∧ M1 480 (6 * p + t) = M 468 6) → (∀ j, 0 ≤ j → j < k → M1 477 (24 * p + 4 * t + j) = M 472 j) → (∀ o j, ¬ LYf p t o j → M1 o j = M o j) → (M 468 5 - k).toNat < n_32 → Ok g mX9_lays (rmd 0) (FQ g (pV (fun M' => LYS M p t M'))) 32 [(0, rv g 468), (1, iv p), (2, iv t), (3, iv k)] [] M1 := by
    intro n_32
    induction n_32 with
    | zero => intro M1 k j0 j1 j2 j3 hn_32; exact absurd hn_32 (Nat.not_lt_zero _)
    | succ n_32 ih_32 =>
      intro M1 k j0 j1 j2 j3 hn_32
      refine x_iload_n 3 dX9_lays_32 rfl rfl ?_
      refine x_aload_n 0 dX9_lays_33 rfl rfl ?_
      refine x_geti (k := 5) (kI := 5) dX9_lays_34 fl9_121 k_468 rfl rfl (fun ⟨a8, a8'⟩ => ?_)
      have e9 : M1 468 5 = M 468 5 := (j3 _ _ (by unfold LYf; omega))
      simp only [e9] at a8 a8' ⊢
      refine x_icmp_ge (tgt := 67) dX9_lays_37 (by decide) ⟨by omega, by omega⟩ ⟨by omega, by omega⟩ (fun c10 => ?_) (fun c10 => ?_)
      · refine x_iconst (0) dX9_lays_67 rfl ?_
        refine x_istore_n (lv' := [(3, iv 0), (0, rv g 468), (1, iv p), (2, iv t)]) dX9_lays_68 rfl (Nat.le_of_ble_eq_true rfl) rfl ?_
        refine x_sub [1, 2, 3, 0] rfl ?_
        exact h_69 _ _ _ (by omega) (by exact j1) (by intro j x0 x1; exact j2 j x0 (by omega)) (by intro j _ _; omega) (by exact j3) (Nat.lt_succ_self _)
      · refine x_aload_n 0 dX9_lays_40 rfl rfl ?_
        refine x_getr (k := 13) (d := 9) dX9_lays_41 fl9_35 k_468 rfl (fun k11 => ?_)
        have k11 : isK 20 120 477 := k11
        show Ok g mX9_lays (rmd 0) (FQ g (pV (fun M' => LYS M p t M'))) 44 [(0, rv g 468), (1, iv p), (2, iv t), (3, iv k)] [rv g 477] M1
        refine x_bipush (24) dX9_lays_44 rfl ?_
        refine x_iload_n 1 dX9_lays_46 rfl rfl ?_
        refine x_imul dX9_lays_47 ?_
        refine x_iconst (4) dX9_lays_48 rfl ?_
        refine x_iload_n 2 dX9_lays_49 rfl rfl ?_
        refine x_imul dX9_lays_50 ?_
        refine x_iadd dX9_lays_51 ?_
        refine x_iload_n 3 dX9_lays_52 rfl rfl ?_
        refine x_iadd dX9_lays_53 ?_
        refine x_aload_n 0 dX9_lays_54 rfl rfl ?_
        refine x_getr (k := 7) (d := 4) dX9_lays_55 fl9_20 k_468 rfl (fun k12 => ?_)
        have k12 : isK 20 4 472 := k12
        show Ok g mX9_lays (rmd 0) (FQ g (pV (fun M' => LYS M p t M'))) 58 [(0, rv g 468), (1, iv p), (2, iv t), (3, iv k)] [rv g 472, iv (((24 * p) + (4 * t)) + k), rv g 477] M1
        refine x_iload_n 3 dX9_lays_58 rfl rfl ?_
        refine x_iald dX9_lays_59 k12 (by omega) (by omega) (by decide) (fun ⟨a13, a13'⟩ => ?_)
        have e14 : M1 472 k = M 472 k := (j3 _ _ (by unfold LYf; omega))
        simp only [e14] at a13 a13' ⊢
        refine x_iast dX9_lays_60 k11 (by omega) (by omega) (by decide) ⟨by omega, by omega⟩ ?_
        refine x_iinc (z := k) (lv' := [(3, iv (k + 1)), (0, rv g 468), (1, iv p), (2, iv t)]) 3 dX9_lays_61 rfl (Nat.le_of_ble_eq_true rfl) rfl ?_
        refine x_goto (tgt := 32) dX9_lays_64 (by decide) ?_
        refine x_sub [1, 2, 3, 0] rfl ?_
        exact ih_32 _ _ (by omega) (by refine ⟨(up_o (by omega)).trans j1.1, (up_o (by omega)).trans j1.2⟩) (by intro j x0 x1; by_cases e : j = k; rw [e, up_s]; rw [up_k (by omega)]; exact j2 j x0 (by omega)) (by intro o j h; rw [up_n (by unfold LYf at h; omega)]; exact j3 o j h) (by omega)
  refine x_aload_n 0 dX9_lays_0 rfl rfl ?_
  refine x_getr (k := 14) (d := 10) dX9_lays_1 fl9_38 k_468 rfl (fun k15 => ?_)
  have k15 : isK 20 30 478 := k15
  show Ok g mX9_lays (rmd 0) (FQ g (pV (fun M' => LYS M p t M'))) 4 [(0, rv g 468), (1, iv p), (2, iv t)] [rv g 478] M
  refine x_bipush (6) dX9_lays_4 rfl ?_
  refine x_iload_n 1 dX9_lays_6 rfl rfl ?_
  refine x_imul dX9_lays_7 ?_
  refine x_iload_n 2 dX9_lays_8 rfl rfl ?_
  refine x_iadd dX9_lays_9 ?_
  refine x_aload_n 0 dX9_lays_10 rfl rfl ?_
  refine x_geti (k := 5) (kI := 5) dX9_lays_11 fl9_121 k_468 rfl rfl (fun ⟨a16, a16'⟩ => ?_)
  refine x_iast dX9_lays_14 k15 (by omega) (by omega) (by decide) ⟨by omega, by omega⟩ ?_
  refine x_aload_n 0 dX9_lays_15 rfl rfl ?_
  refine x_getr (k := 16) (d := 12) dX9_lays_16 fl9_44 k_468 rfl (fun k17 => ?_)
  have k17 : isK 20 30 480 := k17
  show Ok g mX9_lays (rmd 0) (FQ g (pV (fun M' => LYS M p t M'))) 19 [(0, rv g 468), (1, iv p), (2, iv t)] [rv g 480] (up M 478 ((6 * p) + t) (M 468 5))
  refine x_bipush (6) dX9_lays_19 rfl ?_
  refine x_iload_n 1 dX9_lays_21 rfl rfl ?_
  refine x_imul dX9_lays_22 ?_
  refine x_iload_n 2 dX9_lays_23 rfl rfl ?_
  refine x_iadd dX9_lays_24 ?_
  refine x_aload_n 0 dX9_lays_25 rfl rfl ?_
  refine x_geti (k := 6) (kI := 6) dX9_lays_26 fl9_118 k_468 rfl rfl (fun ⟨a18, a18'⟩ => ?_)
  have e19 : (up M 478 ((6 * p) + t) (M 468 5)) 468 6 = M 468 6 := (by simp (disch := omega) only [up_s, up_o, up_k])
  simp only [e19] at a18 a18' ⊢
  refine x_iast dX9_lays_29 k17 (by omega) (by omega) (by decide) ⟨by omega, by omega⟩ ?_
  refine x_iconst (0) dX9_lays_30 rfl ?_
  refine x_istore_n (lv' := [(3, iv 0), (0, rv g 468), (1, iv p), (2, iv t)]) dX9_lays_31 rfl (Nat.le_of_ble_eq_true rfl) rfl ?_
  refine x_sub [1, 2, 3, 0] rfl ?_
  exact h_32 _ _ _ (by omega) (by refine ⟨?_, ?_⟩ <;> simp (disch := omega) only [up_o, up_s]) (by intro j _ _; omega) (by intro o j h; unfold LYf at h; rw [up_n (by omega), up_n (by omega)]) (Nat.lt_succ_self _)

set_option maxHeartbeats 600000 in
set_option maxRecDepth 100000 in
theorem c_X9_waiting (g : GG) (M : Mem) (c k : Int) (q : Int → List Int) (I : RB M) (hc : rg c) (hk : rg k) (G : GB M) (hq : ∀ c, 0 ≤ c → c < 4 → QB M c (q c) ∧ (q c).length ≤ 40) : Ct g yX9_waiting cX9_waiting 4 (some .int) 3 [rv g 468, iv c, iv k] M (pI (fun z M' => ((c < 0 ∨ 3 < c) ∧ M' = up M 468 0 1) ∨ ((0 ≤ c ∧ c ≤ 3) ∧ (((k < 0 ∨ (q c).length ≤ k) ∧ M' = up M 468 0 2) ∨ ((0 ≤ k ∧ k < (q c).length) ∧ (∃ x, (q c)[k.toNat]? = some x ∧ z = x / 5) ∧ M' = up M 468 0 0))))) := by
  refine ct_of (by decide +kernel) (Nat.le_of_ble_eq_true rfl) ?_
  show Ok g mX9_waiting (rmd 3) (FQ g (pI (fun z M' => ((c < 0 ∨ 3 < c) ∧ M' = up M 468 0 1) ∨ ((0 ≤ c ∧ c ≤ 3) ∧ (((k < 0 ∨ (q c).length ≤ k) ∧ M' = up M 468 0 2) ∨ ((0 ≤ k ∧ k < (q c).length) ∧ (∃ x, (q c)[k.toNat]? = some x ∧ z = x / 5) ∧ M' = up M 468 0 0)))))) 0 [(0, rv g 468), (1, iv c), (2, iv k)] [] M
  have i0 := I.rng
  have i2 := I.stamp
  have hc1 := hc.1
  have hc2 := hc.2
  have hk1 := hk.1
  have hk2 := hk.2
  refine x_aload_n 0 dX9_waiting_0 rfl rfl ?_
  refine x_iload_n 1 dX9_waiting_1 rfl rfl ?_
  refine x_callSIP (as := [iv c]) (rest := [rv g 468]) dX9_waiting_2 sl9_206 (c_X9_isNoColour g M c ⟨by omega, by omega⟩) rfl rfl (Nat.le_of_ble_eq_true rfl) ⟨Nat.le_of_ble_eq_true rfl, Nat.le_of_ble_eq_true rfl⟩ (fun z1 h2 => ?_)
  refine x_if_eq (tgt := 12) dX9_waiting_5 (by decide) ⟨by omega, by omega⟩ (fun c4 => ?_) (fun c4 => ?_)
  · refine x_iconst (0) dX9_waiting_12 rfl ?_
    refine x_callVIP (as := [iv 0]) (rest := []) dX9_waiting_13 vl9_114 k_468 (c_X9_fails g M 0 (by omega) (by omega)) rfl rfl (Nat.le_of_ble_eq_true rfl) ⟨Nat.le_of_ble_eq_true rfl, Nat.le_of_ble_eq_true rfl⟩ (fun z5 h6 => ?_)
    refine x_if_eq (tgt := 21) dX9_waiting_16 (by decide) ⟨by omega, by omega⟩ (fun c8 => ?_) (fun c8 => ?_)
    · refine x_iload_n 2 dX9_waiting_21 rfl rfl ?_
      refine x_if_ge (tgt := 29) dX9_waiting_22 (by decide) ⟨by omega, by omega⟩ (fun c9 => ?_) (fun c9 => ?_)
      · refine x_aload_n 0 dX9_waiting_29 rfl rfl ?_
        refine x_iload_n 1 dX9_waiting_30 rfl rfl ?_
        refine x_iload_n 2 dX9_waiting_31 rfl rfl ?_
        refine x_callVIP (as := [iv c, iv k]) (rest := []) dX9_waiting_32 vl9_186 k_468 (c_X9_waitingAt g (up M 468 0 0) c k (q c) (by omega) (by omega) (by obtain ⟨g1, g2, g3, g4, g5, g6⟩ := G; unfold GB; simp (disch := omega) only [up_o, up_k]; exact ⟨g1, g2, g3, g4, g5, g6⟩) (I.code 0).sta (by simp (disch := omega) only [up_o, up_k]; omega) (by have q1 := (hq c (by omega) (by omega)).1; unfold QB WQ at q1 ⊢; simp (disch := omega) only [up_o, up_k]; exact q1) (hq c (by omega) (by omega)).2) rfl rfl (Nat.le_of_ble_eq_true rfl) ⟨Nat.le_of_ble_eq_true rfl, Nat.le_of_ble_eq_true rfl⟩ (fun z10 h11 => ?_)
        have hw := h11
        have hwr : -1 ≤ z10 ∧ z10 < 80 ∧ (z10 = -1 ↔ (q c).length ≤ k) ∧ (z10 ≠ -1 → ∃ x, (q c)[k.toNat]? = some x ∧ z10 / 10 = x / 5) := by
          rcases hw with ⟨w0, w1, x, w2, w3, w4, w5⟩ | ⟨w1, w2⟩
          · have := cdx_0 w4 w5
            exact ⟨by omega, by omega, by omega, fun _ => ⟨x, w2, by rw [w3]; exact cdx_t w4⟩⟩
          · exact ⟨by omega, by omega, by omega, fun e => absurd w2 e⟩
        refine x_istore_n (lv' := [(3, iv z10), (0, rv g 468), (1, iv c), (2, iv k)]) dX9_waiting_35 rfl (Nat.le_of_ble_eq_true rfl) rfl ?_
        refine x_aload_n 1 dX9_waiting_36 rfl rfl ?_
        refine x_iload_n 0 dX9_waiting_37 rfl rfl ?_
        refine x_iconst (-1) dX9_waiting_38 rfl ?_
        refine x_icmp_ne (tgt := 46) dX9_waiting_39 (by decide) ⟨by omega, by omega⟩ ⟨by decide, by decide⟩ (fun c13 => ?_) (fun c13 => ?_)
        · refine x_iconst (0) dX9_waiting_46 rfl ?_
          refine x_callVIP (as := [iv 0]) (rest := []) dX9_waiting_47 vl9_114 k_468 (c_X9_fails g (up M 468 0 0) 0 (by omega) (by omega)) rfl rfl (Nat.le_of_ble_eq_true rfl) ⟨Nat.le_of_ble_eq_true rfl, Nat.le_of_ble_eq_true rfl⟩ (fun z14 h15 => ?_)
          refine x_if_eq (tgt := 57) dX9_waiting_50 (by decide) ⟨by omega, by omega⟩ (fun c17 => ?_) (fun c17 => ?_)
          · refine x_iload_n 0 dX9_waiting_57 rfl rfl ?_
            refine x_bipush (10) dX9_waiting_58 rfl ?_
            refine x_idivp dX9_waiting_60 (by omega) (by omega) (by omega) (by omega) ?_
            refine x_iret dX9_waiting_61 rfl rfl ?_
            have hl := hwr.2.2.1
            have hl2 := hwr.1
            have hx := hwr.2.2.2
            clear hwr
            exact ⟨_, rfl, Or.inr ⟨by clear hx; omega, Or.inr ⟨by clear hx; omega, hx (by clear hx; omega), up_up _ _ _ _ _⟩⟩⟩
          · refine x_iconst (0) dX9_waiting_53 rfl ?_
            refine x_goto (tgt := 61) dX9_waiting_54 (by decide) ?_
            refine x_iret dX9_waiting_61 rfl rfl ?_
            exfalso; omega
        · refine x_iconst (2) dX9_waiting_42 rfl ?_
          refine x_goto (tgt := 47) dX9_waiting_43 (by decide) ?_
          refine x_callVIP (as := [iv 2]) (rest := []) dX9_waiting_47 vl9_114 k_468 (c_X9_fails g (up M 468 0 0) 2 (by omega) (by omega)) rfl rfl (Nat.le_of_ble_eq_true rfl) ⟨Nat.le_of_ble_eq_true rfl, Nat.le_of_ble_eq_true rfl⟩ (fun z18 h19 => ?_)
          refine x_if_eq (tgt := 57) dX9_waiting_50 (by decide) ⟨by omega, by omega⟩ (fun c21 => ?_) (fun c21 => ?_)
          · refine x_iload_n 0 dX9_waiting_57 rfl rfl ?_
            refine x_bipush (10) dX9_waiting_58 rfl ?_
            refine x_idivp dX9_waiting_60 (by omega) (by omega) (by omega) (by omega) ?_
            refine x_iret dX9_waiting_61 rfl rfl ?_
            exfalso; omega
          · refine x_iconst (0) dX9_waiting_53 rfl ?_
            refine x_goto (tgt := 61) dX9_waiting_54 (by decide) ?_
            refine x_iret dX9_waiting_61 rfl rfl ?_
            have hl := hwr.2.2.1
            have hl2 := hwr.1
            have hx := hwr.2.2.2
            clear hwr hx
            exact ⟨_, rfl, Or.inr ⟨by omega, Or.inl ⟨by omega, up_up _ _ _ _ _⟩⟩⟩
      · refine x_iconst (-1) dX9_waiting_25 rfl ?_
        refine x_goto (tgt := 35) dX9_waiting_26 (by decide) ?_
        refine x_istore_n (lv' := [(3, iv ((-1))), (0, rv g 468), (1, iv c), (2, iv k)]) dX9_waiting_35 rfl (Nat.le_of_ble_eq_true rfl) rfl ?_
        refine x_aload_n 1 dX9_waiting_36 rfl rfl ?_
        refine x_iload_n 0 dX9_waiting_37 rfl rfl ?_
        refine x_iconst (-1) dX9_waiting_38 rfl ?_
        refine x_icmp_ne (tgt := 46) dX9_waiting_39 (by decide) ⟨by decide, by decide⟩ ⟨by decide, by decide⟩ (fun c22 => ?_) (fun c22 => ?_)
        · refine x_iconst (0) dX9_waiting_46 rfl ?_
          refine x_callVIP (as := [iv 0]) (rest := []) dX9_waiting_47 vl9_114 k_468 (c_X9_fails g (up M 468 0 0) 0 (by omega) (by omega)) rfl rfl (Nat.le_of_ble_eq_true rfl) ⟨Nat.le_of_ble_eq_true rfl, Nat.le_of_ble_eq_true rfl⟩ (fun z23 h24 => ?_)
          refine x_if_eq (tgt := 57) dX9_waiting_50 (by decide) ⟨by omega, by omega⟩ (fun c26 => ?_) (fun c26 => ?_)
          · refine x_iload_n 0 dX9_waiting_57 rfl rfl ?_
            refine x_bipush (10) dX9_waiting_58 rfl ?_
            refine x_idivp dX9_waiting_60 (by omega) (by omega) (by omega) (by omega) ?_
            refine x_iret dX9_waiting_61 rfl rfl ?_
            exfalso; omega
          · refine x_iconst (0) dX9_waiting_53 rfl ?_
            refine x_goto (tgt := 61) dX9_waiting_54 (by decide) ?_
            refine x_iret dX9_waiting_61 rfl rfl ?_
            exfalso; omega
        · refine x_iconst (2) dX9_waiting_42 rfl ?_
          refine x_goto (tgt := 47) dX9_waiting_43 (by decide) ?_
          refine x_callVIP (as := [iv 2]) (rest := []) dX9_waiting_47 vl9_114 k_468 (c_X9_fails g (up M 468 0 0) 2 (by omega) (by omega)) rfl rfl (Nat.le_of_ble_eq_true rfl) ⟨Nat.le_of_ble_eq_true rfl, Nat.le_of_ble_eq_true rfl⟩ (fun z27 h28 => ?_)
          refine x_if_eq (tgt := 57) dX9_waiting_50 (by decide) ⟨by omega, by omega⟩ (fun c30 => ?_) (fun c30 => ?_)
          · refine x_iload_n 0 dX9_waiting_57 rfl rfl ?_
            refine x_bipush (10) dX9_waiting_58 rfl ?_
            refine x_idivp dX9_waiting_60 (by omega) (by omega) (by omega) (by omega) ?_
            refine x_iret dX9_waiting_61 rfl rfl ?_
            exfalso; omega
          · refine x_iconst (0) dX9_waiting_53 rfl ?_
            refine x_goto (tgt := 61) dX9_waiting_54 (by decide) ?_
            refine x_iret dX9_waiting_61 rfl rfl ?_
            exact ⟨_, rfl, Or.inr ⟨by omega, Or.inl ⟨by omega, up_up _ _ _ _ _⟩⟩⟩
    · refine x_iconst (0) dX9_waiting_19 rfl ?_
      refine x_iret dX9_waiting_20 rfl rfl ?_
      exfalso; omega
  · refine x_iconst (1) dX9_waiting_8 rfl ?_
    refine x_goto (tgt := 13) dX9_waiting_9 (by decide) ?_
    refine x_callVIP (as := [iv 1]) (rest := []) dX9_waiting_13 vl9_114 k_468 (c_X9_fails g M 1 (by omega) (by omega)) rfl rfl (Nat.le_of_ble_eq_true rfl) ⟨Nat.le_of_ble_eq_true rfl, Nat.le_of_ble_eq_true rfl⟩ (fun z31 h32 => ?_)
    refine x_if_eq (tgt := 21) dX9_waiting_16 (by decide) ⟨by omega, by omega⟩ (fun c34 => ?_) (fun c34 => ?_)
    · refine x_iload_n 2 dX9_waiting_21 rfl rfl ?_
      refine x_if_ge (tgt := 29) dX9_waiting_22 (by decide) ⟨by omega, by omega⟩ (fun c35 => ?_) (fun c35 => ?_)
      · refine x_aload_n 0 dX9_waiting_29 rfl rfl ?_
        refine x_iload_n 1 dX9_waiting_30 rfl rfl ?_
        refine x_iload_n 2 dX9_waiting_31 rfl rfl ?_
        refine x_callVIP (as := [iv c, iv k]) (rest := []) dX9_waiting_32 vl9_186 k_468 (c_X9_waitingAt g (up M 468 0 1) c k (q c) (by omega) (by omega) (by obtain ⟨g1, g2, g3, g4, g5, g6⟩ := G; unfold GB; simp (disch := omega) only [up_o, up_k]; exact ⟨g1, g2, g3, g4, g5, g6⟩) (I.code 0).sta (by simp (disch := omega) only [up_o, up_k]; omega) (by have q1 := (hq c (by omega) (by omega)).1; unfold QB WQ at q1 ⊢; simp (disch := omega) only [up_o, up_k]; exact q1) (hq c (by omega) (by omega)).2) rfl rfl (Nat.le_of_ble_eq_true rfl) ⟨Nat.le_of_ble_eq_true rfl, Nat.le_of_ble_eq_true rfl⟩ (fun z36 h37 => ?_)
        have hw := h37
        have hwr : -1 ≤ z36 ∧ z36 < 80 ∧ (z36 = -1 ↔ (q c).length ≤ k) ∧ (z36 ≠ -1 → ∃ x, (q c)[k.toNat]? = some x ∧ z36 / 10 = x / 5) := by
          rcases hw with ⟨w0, w1, x, w2, w3, w4, w5⟩ | ⟨w1, w2⟩
          · have := cdx_0 w4 w5
            exact ⟨by omega, by omega, by omega, fun _ => ⟨x, w2, by rw [w3]; exact cdx_t w4⟩⟩
          · exact ⟨by omega, by omega, by omega, fun e => absurd w2 e⟩
        refine x_istore_n (lv' := [(3, iv z36), (0, rv g 468), (1, iv c), (2, iv k)]) dX9_waiting_35 rfl (Nat.le_of_ble_eq_true rfl) rfl ?_
        refine x_aload_n 1 dX9_waiting_36 rfl rfl ?_
        refine x_iload_n 0 dX9_waiting_37 rfl rfl ?_
        refine x_iconst (-1) dX9_waiting_38 rfl ?_
        refine x_icmp_ne (tgt := 46) dX9_waiting_39 (by decide) ⟨by omega, by omega⟩ ⟨by decide, by decide⟩ (fun c39 => ?_) (fun c39 => ?_)
        · refine x_iconst (0) dX9_waiting_46 rfl ?_
          refine x_callVIP (as := [iv 0]) (rest := []) dX9_waiting_47 vl9_114 k_468 (c_X9_fails g (up M 468 0 1) 0 (by omega) (by omega)) rfl rfl (Nat.le_of_ble_eq_true rfl) ⟨Nat.le_of_ble_eq_true rfl, Nat.le_of_ble_eq_true rfl⟩ (fun z40 h41 => ?_)
          refine x_if_eq (tgt := 57) dX9_waiting_50 (by decide) ⟨by omega, by omega⟩ (fun c43 => ?_) (fun c43 => ?_)
          · refine x_iload_n 0 dX9_waiting_57 rfl rfl ?_
            refine x_bipush (10) dX9_waiting_58 rfl ?_
            refine x_idivp dX9_waiting_60 (by omega) (by omega) (by omega) (by omega) ?_
            refine x_iret dX9_waiting_61 rfl rfl ?_
            exfalso; omega
          · refine x_iconst (0) dX9_waiting_53 rfl ?_
            refine x_goto (tgt := 61) dX9_waiting_54 (by decide) ?_
            refine x_iret dX9_waiting_61 rfl rfl ?_
            exfalso; omega
        · refine x_iconst (2) dX9_waiting_42 rfl ?_
          refine x_goto (tgt := 47) dX9_waiting_43 (by decide) ?_
          refine x_callVIP (as := [iv 2]) (rest := []) dX9_waiting_47 vl9_114 k_468 (c_X9_fails g (up M 468 0 1) 2 (by omega) (by omega)) rfl rfl (Nat.le_of_ble_eq_true rfl) ⟨Nat.le_of_ble_eq_true rfl, Nat.le_of_ble_eq_true rfl⟩ (fun z44 h45 => ?_)
          refine x_if_eq (tgt := 57) dX9_waiting_50 (by decide) ⟨by omega, by omega⟩ (fun c47 => ?_) (fun c47 => ?_)
          · refine x_iload_n 0 dX9_waiting_57 rfl rfl ?_
            refine x_bipush (10) dX9_waiting_58 rfl ?_
            refine x_idivp dX9_waiting_60 (by omega) (by omega) (by omega) (by omega) ?_
            refine x_iret dX9_waiting_61 rfl rfl ?_
            exfalso; omega
          · refine x_iconst (0) dX9_waiting_53 rfl ?_
            refine x_goto (tgt := 61) dX9_waiting_54 (by decide) ?_
            refine x_iret dX9_waiting_61 rfl rfl ?_
            exfalso; omega
      · refine x_iconst (-1) dX9_waiting_25 rfl ?_
        refine x_goto (tgt := 35) dX9_waiting_26 (by decide) ?_
        refine x_istore_n (lv' := [(3, iv ((-1))), (0, rv g 468), (1, iv c), (2, iv k)]) dX9_waiting_35 rfl (Nat.le_of_ble_eq_true rfl) rfl ?_
        refine x_aload_n 1 dX9_waiting_36 rfl rfl ?_
        refine x_iload_n 0 dX9_waiting_37 rfl rfl ?_
        refine x_iconst (-1) dX9_waiting_38 rfl ?_
        refine x_icmp_ne (tgt := 46) dX9_waiting_39 (by decide) ⟨by decide, by decide⟩ ⟨by decide, by decide⟩ (fun c48 => ?_) (fun c48 => ?_)
        · refine x_iconst (0) dX9_waiting_46 rfl ?_
          refine x_callVIP (as := [iv 0]) (rest := []) dX9_waiting_47 vl9_114 k_468 (c_X9_fails g (up M 468 0 1) 0 (by omega) (by omega)) rfl rfl (Nat.le_of_ble_eq_true rfl) ⟨Nat.le_of_ble_eq_true rfl, Nat.le_of_ble_eq_true rfl⟩ (fun z49 h50 => ?_)
          refine x_if_eq (tgt := 57) dX9_waiting_50 (by decide) ⟨by omega, by omega⟩ (fun c52 => ?_) (fun c52 => ?_)
          · refine x_iload_n 0 dX9_waiting_57 rfl rfl ?_
            refine x_bipush (10) dX9_waiting_58 rfl ?_
            refine x_idivp dX9_waiting_60 (by omega) (by omega) (by omega) (by omega) ?_
            refine x_iret dX9_waiting_61 rfl rfl ?_
            exfalso; omega
          · refine x_iconst (0) dX9_waiting_53 rfl ?_
            refine x_goto (tgt := 61) dX9_waiting_54 (by decide) ?_
            refine x_iret dX9_waiting_61 rfl rfl ?_
            exfalso; omega
        · refine x_iconst (2) dX9_waiting_42 rfl ?_
          refine x_goto (tgt := 47) dX9_waiting_43 (by decide) ?_
          refine x_callVIP (as := [iv 2]) (rest := []) dX9_waiting_47 vl9_114 k_468 (c_X9_fails g (up M 468 0 1) 2 (by omega) (by omega)) rfl rfl (Nat.le_of_ble_eq_true rfl) ⟨Nat.le_of_ble_eq_true rfl, Nat.le_of_ble_eq_true rfl⟩ (fun z53 h54 => ?_)
          refine x_if_eq (tgt := 57) dX9_waiting_50 (by decide) ⟨by omega, by omega⟩ (fun c56 => ?_) (fun c56 => ?_)
          · refine x_iload_n 0 dX9_waiting_57 rfl rfl ?_
            refine x_bipush (10) dX9_waiting_58 rfl ?_
            refine x_idivp dX9_waiting_60 (by omega) (by omega) (by omega) (by omega) ?_
            refine x_iret dX9_waiting_61 rfl rfl ?_
            exfalso; omega
          · refine x_iconst (0) dX9_waiting_53 rfl ?_
            refine x_goto (tgt := 61) dX9_waiting_54 (by decide) ?_
            refine x_iret dX9_waiting_61 rfl rfl ?_
            exfalso; omega
    · refine x_iconst (0) dX9_waiting_19 rfl ?_
      refine x_iret dX9_waiting_20 rfl rfl ?_
      exact ⟨_, rfl, Or.inl ⟨by omega, rfl⟩⟩

set_option maxHeartbeats 600000 in
set_option maxRecDepth 100000 in
theorem c_X9_stock (g : GG) (M : Mem) (c m : Int) (b : Int → BSt) (I : RB M) (hc : rg c) (hm : rg m) (hb : ∀ c, 0 ≤ c → c < 4 → RBb M c (b c) ∧ QS 1000000 (b c)) : Ct g yX9_stock cX9_stock 3 (some .int) 3 [rv g 468, iv c, iv m] M (pI (fun z M' => (¬ ((0 ≤ c ∧ c ≤ 3) ∧ 1 ≤ m ∧ m ≤ 20) ∧ M' = up M 468 0 1) ∨ (((0 ≤ c ∧ c ≤ 3) ∧ 1 ≤ m ∧ m ≤ 20) ∧ z = M' 495 c ∧ BMV (up (up M 468 0 0) 495 c (M 495 c + m)) c (SVo ((b c).1, (b c).2.1, (b c).2.2.1 + m, (b c).2.2.2.1, (b c).2.2.2.2)) 0 M'))) := by
  refine ct_of (by decide +kernel) (Nat.le_of_ble_eq_true rfl) ?_
  show Ok g mX9_stock (rmd 3) (FQ g (pI (fun z M' => (¬ ((0 ≤ c ∧ c ≤ 3) ∧ 1 ≤ m ∧ m ≤ 20) ∧ M' = up M 468 0 1) ∨ (((0 ≤ c ∧ c ≤ 3) ∧ 1 ≤ m ∧ m ≤ 20) ∧ z = M' 495 c ∧ BMV (up (up M 468 0 0) 495 c (M 495 c + m)) c (SVo ((b c).1, (b c).2.1, (b c).2.2.1 + m, (b c).2.2.2.1, (b c).2.2.2.2)) 0 M')))) 0 [(0, rv g 468), (1, iv c), (2, iv m)] [] M
  have i0 := I.rng
  have i2 := I.stamp
  have hc1 := hc.1
  have hc2 := hc.2
  have hm1 := hm.1
  have hm2 := hm.2
  refine x_aload_n 0 dX9_stock_0 rfl rfl ?_
  refine x_iload_n 1 dX9_stock_1 rfl rfl ?_
  refine x_callSIP (as := [iv c]) (rest := [rv g 468]) dX9_stock_2 sl9_206 (c_X9_isNoColour g M c ⟨by omega, by omega⟩) rfl rfl (Nat.le_of_ble_eq_true rfl) ⟨Nat.le_of_ble_eq_true rfl, Nat.le_of_ble_eq_true rfl⟩ (fun z1 h2 => ?_)
  refine x_if_ne (tgt := 18) dX9_stock_5 (by decide) ⟨by omega, by omega⟩ (fun c4 => ?_) (fun c4 => ?_)
  · refine x_iconst (1) dX9_stock_18 rfl ?_
    refine x_goto (tgt := 23) dX9_stock_19 (by decide) ?_
    refine x_callVIP (as := [iv 1]) (rest := []) dX9_stock_23 vl9_114 k_468 (c_X9_fails g M 1 (by omega) (by omega)) rfl rfl (Nat.le_of_ble_eq_true rfl) ⟨Nat.le_of_ble_eq_true rfl, Nat.le_of_ble_eq_true rfl⟩ (fun z5 h6 => ?_)
    refine x_if_eq (tgt := 31) dX9_stock_26 (by decide) ⟨by omega, by omega⟩ (fun c8 => ?_) (fun c8 => ?_)
    · exfalso; omega
    · refine x_iconst (0) dX9_stock_29 rfl ?_
      refine x_iret dX9_stock_30 rfl rfl ?_
      exact ⟨_, rfl, Or.inl ⟨by omega, rfl⟩⟩
  · refine x_iload_n 2 dX9_stock_8 rfl rfl ?_
    refine x_iconst (1) dX9_stock_9 rfl ?_
    refine x_bipush (20) dX9_stock_10 rfl ?_
    refine x_callSIP (as := [iv m, iv 1, iv 20]) (rest := [rv g 468]) dX9_stock_12 sl9_103 (c_X9_in g M m 1 20 ⟨by omega, by omega⟩ ⟨by omega, by omega⟩ ⟨by omega, by omega⟩) rfl rfl (Nat.le_of_ble_eq_true rfl) ⟨Nat.le_of_ble_eq_true rfl, Nat.le_of_ble_eq_true rfl⟩ (fun z9 h10 => ?_)
    refine x_if_ne (tgt := 22) dX9_stock_15 (by decide) ⟨by omega, by omega⟩ (fun c12 => ?_) (fun c12 => ?_)
    · refine x_iconst (0) dX9_stock_22 rfl ?_
      refine x_callVIP (as := [iv 0]) (rest := []) dX9_stock_23 vl9_114 k_468 (c_X9_fails g M 0 (by omega) (by omega)) rfl rfl (Nat.le_of_ble_eq_true rfl) ⟨Nat.le_of_ble_eq_true rfl, Nat.le_of_ble_eq_true rfl⟩ (fun z13 h14 => ?_)
      refine x_if_eq (tgt := 31) dX9_stock_26 (by decide) ⟨by omega, by omega⟩ (fun c16 => ?_) (fun c16 => ?_)
      · have hc9 := hb c (by omega) (by omega)
        have hd9 := hc9.2.2.1.1
        have hd8 := hc9.1.2.2.1
        refine x_aload_n 0 dX9_stock_31 rfl rfl ?_
        refine x_getr (k := 33) (d := 27) dX9_stock_32 fl9_89 k_468 rfl (fun k17 => ?_)
        have k17 : isK 20 4 495 := k17
        show Ok g mX9_stock (rmd 3) (FQ g (pI (fun z M' => (¬ ((0 ≤ c ∧ c ≤ 3) ∧ 1 ≤ m ∧ m ≤ 20) ∧ M' = up M 468 0 1) ∨ (((0 ≤ c ∧ c ≤ 3) ∧ 1 ≤ m ∧ m ≤ 20) ∧ z = M' 495 c ∧ BMV (up (up M 468 0 0) 495 c (M 495 c + m)) c (SVo ((b c).1, (b c).2.1, (b c).2.2.1 + m, (b c).2.2.2.1, (b c).2.2.2.2)) 0 M')))) 35 [(0, rv g 468), (1, iv c), (2, iv m)] [rv g 495] (up M 468 0 0)
        refine x_iload_n 1 dX9_stock_35 rfl rfl ?_
        refine x_dup2 dX9_stock_36 rfl rfl ?_
        refine x_iald dX9_stock_37 k17 (by omega) (by omega) (by decide) (fun ⟨a18, a18'⟩ => ?_)
        have e19 : (up M 468 0 0) 495 c = M 495 c := (by simp (disch := omega) only [up_s, up_o, up_k])
        simp only [e19] at a18 a18' ⊢
        refine x_iload_n 2 dX9_stock_38 rfl rfl ?_
        refine x_iadd dX9_stock_39 ?_
        refine x_iast dX9_stock_40 k17 (by omega) (by omega) (by decide) ⟨by omega, by omega⟩ ?_
        refine x_aload_n 0 dX9_stock_41 rfl rfl ?_
        refine x_iload_n 1 dX9_stock_42 rfl rfl ?_
        refine x_callVV (as := [iv c]) (rest := []) dX9_stock_43 vl9_177 k_468 (c_X9_gives g (up (up M 468 0 0) 495 c ((M 495 c) + m)) c _ (by omega) (hc9.1.gb I hc9.2.2.2 |>.cong (by simp (disch := omega) only [up_o, up_k]) (by simp (disch := omega) only [up_o, up_k]) (fun _ => by simp (disch := omega) only [up_o]) (fun _ => by simp (disch := omega) only [up_o])) (I.sta.cong (by simp (disch := omega) only [up_o, up_k]) (by simp (disch := omega) only [up_o, up_k]) (fun _ => by simp (disch := omega) only [up_o]) (fun _ => by simp (disch := omega) only [up_o])) (by simp (disch := omega) only [up_o, up_k]; omega) hc9.1.more hc9.2.1) rfl rfl (Nat.le_of_ble_eq_true rfl) ⟨Nat.le_of_ble_eq_true rfl, Nat.le_of_ble_eq_true rfl⟩ (fun M22 h21 => ?_)
        have hG := h21
        refine x_aload_n 0 dX9_stock_46 rfl rfl ?_
        refine x_getr (k := 33) (d := 27) dX9_stock_47 fl9_89 k_468 rfl (fun k23 => ?_)
        have k23 : isK 20 4 495 := k23
        show Ok g mX9_stock (rmd 3) (FQ g (pI (fun z M' => (¬ ((0 ≤ c ∧ c ≤ 3) ∧ 1 ≤ m ∧ m ≤ 20) ∧ M' = up M 468 0 1) ∨ (((0 ≤ c ∧ c ≤ 3) ∧ 1 ≤ m ∧ m ≤ 20) ∧ z = M' 495 c ∧ BMV (up (up M 468 0 0) 495 c (M 495 c + m)) c (SVo ((b c).1, (b c).2.1, (b c).2.2.1 + m, (b c).2.2.2.1, (b c).2.2.2.2)) 0 M')))) 50 [(0, rv g 468), (1, iv c), (2, iv m)] [rv g 495] M22
        refine x_iload_n 1 dX9_stock_50 rfl rfl ?_
        refine x_iald dX9_stock_51 k23 (by omega) (by omega) (by decide) (fun ⟨a24, a24'⟩ => ?_)
        refine x_iret dX9_stock_52 rfl rfl ?_
        exact ⟨_, rfl, Or.inr ⟨by omega, rfl, hG⟩⟩
      · refine x_iconst (0) dX9_stock_29 rfl ?_
        refine x_iret dX9_stock_30 rfl rfl ?_
        exfalso; omega
    · refine x_iconst (1) dX9_stock_18 rfl ?_
      refine x_goto (tgt := 23) dX9_stock_19 (by decide) ?_
      refine x_callVIP (as := [iv 1]) (rest := []) dX9_stock_23 vl9_114 k_468 (c_X9_fails g M 1 (by omega) (by omega)) rfl rfl (Nat.le_of_ble_eq_true rfl) ⟨Nat.le_of_ble_eq_true rfl, Nat.le_of_ble_eq_true rfl⟩ (fun z25 h26 => ?_)
      refine x_if_eq (tgt := 31) dX9_stock_26 (by decide) ⟨by omega, by omega⟩ (fun c28 => ?_) (fun c28 => ?_)
      · exfalso; omega
      · refine x_iconst (0) dX9_stock_29 rfl ?_
        refine x_iret dX9_stock_30 rfl rfl ?_
        exact ⟨_, rfl, Or.inl ⟨by omega, rfl⟩⟩
