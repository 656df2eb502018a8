set_option maxHeartbeats 600000 in
set_option maxRecDepth 100000 in
theorem c_X9_test (g : GG) (M : Mem) (p : Int) (b : Int → BSt) (I : RB M) (hp : rg p) (hb : ∀ c, 0 ≤ c → c < 4 → RBb M c (b c) ∧ QS 50000 (b c)) (hst : M 468 34 ≤ 99900) : Ct g yX9_test cX9_test 3 (some .int) 6 [rv g 468, iv p] M (pI (fun z M' => ((p < 0 ∨ M 468 9 ≤ p) ∧ M' = up M 468 0 1) ∨ (((0 ≤ p ∧ p < M 468 9) ∧ M 476 p = 6) ∧ M' = up M 468 0 2) ∨ (((0 ≤ p ∧ p < M 468 9) ∧ M 476 p < 6) ∧ TSP M p (M 476 p) (M 476 p + 1) (b (M 474 p)) z M'))) := by
  refine ct_of (by decide +kernel) (Nat.le_of_ble_eq_true rfl) ?_
  show Ok g mX9_test (rmd 6) (FQ g (pI (fun z M' => ((p < 0 ∨ M 468 9 ≤ p) ∧ M' = up M 468 0 1) ∨ (((0 ≤ p ∧ p < M 468 9) ∧ M 476 p = 6) ∧ M' = up M 468 0 2) ∨ (((0 ≤ p ∧ p < M 468 9) ∧ M 476 p < 6) ∧ TSP M p (M 476 p) (M 476 p + 1) (b (M 474 p)) z M')))) 0 [(0, rv g 468), (1, iv p)] [] M
  have i0 := I.rng
  have hp1 := hp.1
  have hp2 := hp.2
  refine x_aload_n 0 dX9_test_0 rfl rfl ?_
  refine x_aload_n 0 dX9_test_1 rfl rfl ?_
  refine x_iload_n 1 dX9_test_2 rfl rfl ?_
  refine x_callVIP (as := [iv p]) (rest := [rv g 468]) dX9_test_3 vl9_133 k_468 (c_X9_isNoProblem g M p ⟨by omega, by omega⟩ (by omega) (by omega)) rfl rfl (Nat.le_of_ble_eq_true rfl) ⟨Nat.le_of_ble_eq_true rfl, Nat.le_of_ble_eq_true rfl⟩ (fun z1 h2 => ?_)
  refine x_if_eq (tgt := 13) dX9_test_6 (by decide) ⟨by omega, by omega⟩ (fun c4 => ?_) (fun c4 => ?_)
  · have i1 := I.prob p (by omega) (by omega)
    refine x_aload_n 0 dX9_test_13 rfl rfl ?_
    refine x_getr (k := 12) (d := 8) dX9_test_14 fl9_32 k_468 rfl (fun k5 => ?_)
    have k5 : isK 20 5 476 := k5
    show Ok g mX9_test (rmd 6) (FQ g (pI (fun z M' => ((p < 0 ∨ M 468 9 ≤ p) ∧ M' = up M 468 0 1) ∨ (((0 ≤ p ∧ p < M 468 9) ∧ M 476 p = 6) ∧ M' = up M 468 0 2) ∨ (((0 ≤ p ∧ p < M 468 9) ∧ M 476 p < 6) ∧ TSP M p (M 476 p) (M 476 p + 1) (b (M 474 p)) z M')))) 17 [(0, rv g 468), (1, iv p)] [rv g 476, rv g 468] M
    refine x_iload_n 1 dX9_test_17 rfl rfl ?_
    refine x_iald dX9_test_18 k5 (by omega) (by omega) (by decide) (fun ⟨a6, a6'⟩ => ?_)
    refine x_bipush (6) dX9_test_19 rfl ?_
    refine x_icmp_ne (tgt := 28) dX9_test_21 (by decide) ⟨by omega, by omega⟩ ⟨by decide, by decide⟩ (fun c7 => ?_) (fun c7 => ?_)
    · refine x_iconst (0) dX9_test_28 rfl ?_
      refine x_callVIP (as := [iv 0]) (rest := []) dX9_test_29 vl9_114 k_468 (c_X9_fails g M 0 (by omega) (by omega)) rfl rfl (Nat.le_of_ble_eq_true rfl) ⟨Nat.le_of_ble_eq_true rfl, Nat.le_of_ble_eq_true rfl⟩ (fun z8 h9 => ?_)
      refine x_if_eq (tgt := 37) dX9_test_32 (by decide) ⟨by omega, by omega⟩ (fun c11 => ?_) (fun c11 => ?_)
      · skip
        refine x_aload_n 0 dX9_test_37 rfl rfl ?_
        refine x_getr (k := 12) (d := 8) dX9_test_38 fl9_32 k_468 rfl (fun k12 => ?_)
        have k12 : isK 20 5 476 := k12
        show Ok g mX9_test (rmd 6) (FQ g (pI (fun z M' => ((p < 0 ∨ M 468 9 ≤ p) ∧ M' = up M 468 0 1) ∨ (((0 ≤ p ∧ p < M 468 9) ∧ M 476 p = 6) ∧ M' = up M 468 0 2) ∨ (((0 ≤ p ∧ p < M 468 9) ∧ M 476 p < 6) ∧ TSP M p (M 476 p) (M 476 p + 1) (b (M 474 p)) z M')))) 41 [(0, rv g 468), (1, iv p)] [rv g 476] (up M 468 0 0)
        refine x_iload_n 1 dX9_test_41 rfl rfl ?_
        refine x_iald dX9_test_42 k12 (by omega) (by omega) (by decide) (fun ⟨a13, a13'⟩ => ?_)
        have e14 : (up M 468 0 0) 476 p = M 476 p := (by simp (disch := omega) only [up_s, up_o, up_k])
        simp only [e14] at a13 a13' ⊢
        refine x_istore_n (lv' := [(2, iv (M 476 p)), (0, rv g 468), (1, iv p)]) dX9_test_43 rfl (Nat.le_of_ble_eq_true rfl) rfl ?_
        refine x_aload_n 1 dX9_test_44 rfl rfl ?_
        refine x_iload_n 2 dX9_test_45 rfl rfl ?_
        refine x_iload_n 0 dX9_test_46 rfl rfl ?_
        refine x_callVV (as := [iv p, iv (M 476 p)]) (rest := []) dX9_test_47 vl9_136 k_468 (c_X9_lays g (up M 468 0 0) p (M 476 p) (by simp (disch := omega) only [up_k]; omega) (by simp (disch := omega) only [up_k]; omega) (by simp (disch := omega) only [up_k]; omega) (by simp (disch := omega) only [up_k]; omega) (by omega) (by omega) (by omega) (by omega)) rfl rfl (Nat.le_of_ble_eq_true rfl) ⟨Nat.le_of_ble_eq_true rfl, Nat.le_of_ble_eq_true rfl⟩ (fun M17 h16 => ?_)
        have hl := h16
        have hI := (I.code 0).lay hl (by omega) (by omega) (by omega)
        have fr : ∀ o k, (o < 477 ∨ 480 < o) → o ≠ 468 → M17 o k = M o k := fun o k a b => (hl.fr a).trans (up_o b)
        have fs : ∀ k, k ≠ 0 → M17 468 k = M 468 k := fun k b => (hl.fr (by omega)).trans (up_k b)
        have hc : TCH M17 p (M 476 p) (M 476 p + 1) := ⟨by omega, by omega, by omega, by rw [fr 476 p (by omega) (by omega)]; omega, fun u _ _ => by rw [fr 476 p (by omega) (by omega)]; omega, by rw [hl.1, up_k (by omega)]; omega, by rw [hl.1, up_k (by omega)]; omega, by rw [hl.2.1, up_k (by omega)]; omega, by rw [hl.2.1, up_k (by omega)]; omega⟩
        have hc9 := hb (M 474 p) (by omega) (by omega)
        refine x_aload_n 1 dX9_test_50 rfl rfl ?_
        refine x_iload_n 2 dX9_test_51 rfl rfl ?_
        refine x_iload_n 0 dX9_test_52 rfl rfl ?_
        refine x_iload_n 0 dX9_test_53 rfl rfl ?_
        refine x_iconst (1) dX9_test_54 rfl ?_
        refine x_iadd dX9_test_55 ?_
        refine x_callVI (as := [iv p, iv (M 476 p), iv ((M 476 p) + 1)]) (rest := []) dX9_test_56 vl9_140 k_468 (c_X9_judgesAnew g M17 p (M 476 p) (M 476 p + 1) (b (M 474 p)) hI (by omega) (by rw [fs 9 (by omega)]; omega) hc (by rw [fr 474 p (by omega) (by omega)]; exact hl.rbb hc9.1.code) hc9.2 (by rw [fs 34 (by omega)]; omega)) rfl rfl (Nat.le_of_ble_eq_true rfl) ⟨Nat.le_of_ble_eq_true rfl, Nat.le_of_ble_eq_true rfl⟩ (fun z18 M20 h19 => ?_)
        have hJ := h19
        refine x_iret dX9_test_59 rfl rfl ?_
        obtain ⟨M2, k1, k2, k3, k4⟩ := hJ
        rw [fs 18 (by omega)] at k1 k3
        rw [fr 474 p (by omega) (by omega), fs 17 (by omega)] at k4
        exact ⟨_, rfl, Or.inr (Or.inr (⟨by omega, _, _, hl, k1, k2, k3.trans (cnt_congr (by omega) (fun r _ _ => by rw [fr 482 r (by omega) (by omega), hl.vz, vz_code])), RJ.rb hI (by rw [fs 18 (by omega)]; exact k1) hc k2 (by omega) (by rw [fs 9 (by omega)]; omega), hI, hc, k4⟩))⟩
      · refine x_iconst (0) dX9_test_35 rfl ?_
        refine x_iret dX9_test_36 rfl rfl ?_
        exfalso; omega
    · refine x_iconst (2) dX9_test_24 rfl ?_
      refine x_goto (tgt := 29) dX9_test_25 (by decide) ?_
      refine x_callVIP (as := [iv 2]) (rest := []) dX9_test_29 vl9_114 k_468 (c_X9_fails g M 2 (by omega) (by omega)) rfl rfl (Nat.le_of_ble_eq_true rfl) ⟨Nat.le_of_ble_eq_true rfl, Nat.le_of_ble_eq_true rfl⟩ (fun z21 h22 => ?_)
      refine x_if_eq (tgt := 37) dX9_test_32 (by decide) ⟨by omega, by omega⟩ (fun c24 => ?_) (fun c24 => ?_)
      · exfalso; omega
      · refine x_iconst (0) dX9_test_35 rfl ?_
        refine x_iret dX9_test_36 rfl rfl ?_
        exact ⟨_, rfl, Or.inr (Or.inl ⟨by omega, rfl⟩)⟩
  · refine x_iconst (1) dX9_test_9 rfl ?_
    refine x_goto (tgt := 29) dX9_test_10 (by decide) ?_
    refine x_callVIP (as := [iv 1]) (rest := []) dX9_test_29 vl9_114 k_468 (c_X9_fails g M 1 (by omega) (by omega)) rfl rfl (Nat.le_of_ble_eq_true rfl) ⟨Nat.le_of_ble_eq_true rfl, Nat.le_of_ble_eq_true rfl⟩ (fun z25 h26 => ?_)
    refine x_if_eq (tgt := 37) dX9_test_32 (by decide) ⟨by omega, by omega⟩ (fun c28 => ?_) (fun c28 => ?_)
    · exfalso; omega
    · refine x_iconst (0) dX9_test_35 rfl ?_
      refine x_iret dX9_test_36 rfl rfl ?_
      exact ⟨_, rfl, Or.inl ⟨by omega, rfl⟩⟩

set_option maxHeartbeats 600000 in
set_option maxRecDepth 100000 in
theorem c_X9_fix (g : GG) (M : Mem) (p t : Int) (b : Int → BSt) (I : RB M) (hp : rg p) (ht : rg t) (hb : ∀ c, 0 ≤ c → c < 4 → RBb M c (b c) ∧ QS 50000 (b c)) (hst : M 468 34 ≤ 99900) : Ct g yX9_fix cX9_fix 3 (some .int) 6 [rv g 468, iv p, iv t] M (pI (fun z M' => (¬ ((0 ≤ p ∧ p < M 468 9) ∧ 0 ≤ t ∧ t < M 476 p) ∧ M' = up M 468 0 1) ∨ (((0 ≤ p ∧ p < M 468 9) ∧ 0 ≤ t ∧ t < M 476 p) ∧ TSP M p t (M 476 p) (b (M 474 p)) z M'))) := by
  refine ct_of (by decide +kernel) (Nat.le_of_ble_eq_true rfl) ?_
  show Ok g mX9_fix (rmd 6) (FQ g (pI (fun z M' => (¬ ((0 ≤ p ∧ p < M 468 9) ∧ 0 ≤ t ∧ t < M 476 p) ∧ M' = up M 468 0 1) ∨ (((0 ≤ p ∧ p < M 468 9) ∧ 0 ≤ t ∧ t < M 476 p) ∧ TSP M p t (M 476 p) (b (M 474 p)) z M')))) 0 [(0, rv g 468), (1, iv p), (2, iv t)] [] M
  have i0 := I.rng
  have hp1 := hp.1
  have hp2 := hp.2
  have ht1 := ht.1
  have ht2 := ht.2
  refine x_aload_n 0 dX9_fix_0 rfl rfl ?_
  refine x_aload_n 0 dX9_fix_1 rfl rfl ?_
  refine x_iload_n 1 dX9_fix_2 rfl rfl ?_
  refine x_callVIP (as := [iv p]) (rest := [rv g 468]) dX9_fix_3 vl9_133 k_468 (c_X9_isNoProblem g M p ⟨by omega, by omega⟩ (by omega) (by omega)) rfl rfl (Nat.le_of_ble_eq_true rfl) ⟨Nat.le_of_ble_eq_true rfl, Nat.le_of_ble_eq_true rfl⟩ (fun z1 h2 => ?_)
  refine x_if_ne (tgt := 25) dX9_fix_6 (by decide) ⟨by omega, by omega⟩ (fun c4 => ?_) (fun c4 => ?_)
  · refine x_iconst (1) dX9_fix_25 rfl ?_
    refine x_goto (tgt := 30) dX9_fix_26 (by decide) ?_
    refine x_callVIP (as := [iv 1]) (rest := []) dX9_fix_30 vl9_114 k_468 (c_X9_fails g M 1 (by omega) (by omega)) rfl rfl (Nat.le_of_ble_eq_true rfl) ⟨Nat.le_of_ble_eq_true rfl, Nat.le_of_ble_eq_true rfl⟩ (fun z5 h6 => ?_)
    refine x_if_eq (tgt := 38) dX9_fix_33 (by decide) ⟨by omega, by omega⟩ (fun c8 => ?_) (fun c8 => ?_)
    · exfalso; omega
    · refine x_iconst (0) dX9_fix_36 rfl ?_
      refine x_iret dX9_fix_37 rfl rfl ?_
      exact ⟨_, rfl, Or.inl ⟨by omega, rfl⟩⟩
  · have i1 := I.prob p (by omega) (by omega)
    refine x_iload_n 2 dX9_fix_9 rfl rfl ?_
    refine x_iconst (0) dX9_fix_10 rfl ?_
    refine x_aload_n 0 dX9_fix_11 rfl rfl ?_
    refine x_getr (k := 12) (d := 8) dX9_fix_12 fl9_32 k_468 rfl (fun k9 => ?_)
    have k9 : isK 20 5 476 := k9
    show Ok g mX9_fix (rmd 6) (FQ g (pI (fun z M' => (¬ ((0 ≤ p ∧ p < M 468 9) ∧ 0 ≤ t ∧ t < M 476 p) ∧ M' = up M 468 0 1) ∨ (((0 ≤ p ∧ p < M 468 9) ∧ 0 ≤ t ∧ t < M 476 p) ∧ TSP M p t (M 476 p) (b (M 474 p)) z M')))) 15 [(0, rv g 468), (1, iv p), (2, iv t)] [rv g 476, iv 0, iv t, rv g 468] M
    refine x_iload_n 1 dX9_fix_15 rfl rfl ?_
    refine x_iald dX9_fix_16 k9 (by omega) (by omega) (by decide) (fun ⟨a10, a10'⟩ => ?_)
    refine x_iconst (1) dX9_fix_17 rfl ?_
    refine x_isub dX9_fix_18 ?_
    refine x_callSIP (as := [iv t, iv 0, iv ((M 476 p) - 1)]) (rest := [rv g 468]) dX9_fix_19 sl9_103 (c_X9_in g M t 0 ((M 476 p) - 1) ⟨by omega, by omega⟩ ⟨by omega, by omega⟩ ⟨by omega, by omega⟩) rfl rfl (Nat.le_of_ble_eq_true rfl) ⟨Nat.le_of_ble_eq_true rfl, Nat.le_of_ble_eq_true rfl⟩ (fun z11 h12 => ?_)
    refine x_if_ne (tgt := 29) dX9_fix_22 (by decide) ⟨by omega, by omega⟩ (fun c14 => ?_) (fun c14 => ?_)
    · refine x_iconst (0) dX9_fix_29 rfl ?_
      refine x_callVIP (as := [iv 0]) (rest := []) dX9_fix_30 vl9_114 k_468 (c_X9_fails g M 0 (by omega) (by omega)) rfl rfl (Nat.le_of_ble_eq_true rfl) ⟨Nat.le_of_ble_eq_true rfl, Nat.le_of_ble_eq_true rfl⟩ (fun z15 h16 => ?_)
      refine x_if_eq (tgt := 38) dX9_fix_33 (by decide) ⟨by omega, by omega⟩ (fun c18 => ?_) (fun c18 => ?_)
      · skip
        refine x_aload_n 0 dX9_fix_38 rfl rfl ?_
        refine x_iload_n 1 dX9_fix_39 rfl rfl ?_
        refine x_iload_n 2 dX9_fix_40 rfl rfl ?_
        refine x_callVV (as := [iv p, iv t]) (rest := []) dX9_fix_41 vl9_136 k_468 (c_X9_lays g (up M 468 0 0) p t (by simp (disch := omega) only [up_k]; omega) (by simp (disch := omega) only [up_k]; omega) (by simp (disch := omega) only [up_k]; omega) (by simp (disch := omega) only [up_k]; omega) (by omega) (by omega) (by omega) (by omega)) rfl rfl (Nat.le_of_ble_eq_true rfl) ⟨Nat.le_of_ble_eq_true rfl, Nat.le_of_ble_eq_true rfl⟩ (fun M21 h20 => ?_)
        have hl := h20
        have hI := (I.code 0).lay hl (by omega) (by omega) (by omega)
        have fr : ∀ o k, (o < 477 ∨ 480 < o) → o ≠ 468 → M21 o k = M o k := fun o k a b => (hl.fr a).trans (up_o b)
        have fs : ∀ k, k ≠ 0 → M21 468 k = M 468 k := fun k b => (hl.fr (by omega)).trans (up_k b)
        have hc : TCH M21 p t (M 476 p) := ⟨by omega, by omega, by omega, by rw [fr 476 p (by omega) (by omega)]; omega, fun u _ _ => by rw [fr 476 p (by omega) (by omega)]; omega, by rw [hl.1, up_k (by omega)]; omega, by rw [hl.1, up_k (by omega)]; omega, by rw [hl.2.1, up_k (by omega)]; omega, by rw [hl.2.1, up_k (by omega)]; omega⟩
        have hc9 := hb (M 474 p) (by omega) (by omega)
        refine x_aload_n 0 dX9_fix_44 rfl rfl ?_
        refine x_iload_n 1 dX9_fix_45 rfl rfl ?_
        refine x_iload_n 2 dX9_fix_46 rfl rfl ?_
        refine x_aload_n 0 dX9_fix_47 rfl rfl ?_
        refine x_getr (k := 12) (d := 8) dX9_fix_48 fl9_32 k_468 rfl (fun k22 => ?_)
        have k22 : isK 20 5 476 := k22
        show Ok g mX9_fix (rmd 6) (FQ g (pI (fun z M' => (¬ ((0 ≤ p ∧ p < M 468 9) ∧ 0 ≤ t ∧ t < M 476 p) ∧ M' = up M 468 0 1) ∨ (((0 ≤ p ∧ p < M 468 9) ∧ 0 ≤ t ∧ t < M 476 p) ∧ TSP M p t (M 476 p) (b (M 474 p)) z M')))) 51 [(0, rv g 468), (1, iv p), (2, iv t)] [rv g 476, iv t, iv p, rv g 468] M21
        refine x_iload_n 1 dX9_fix_51 rfl rfl ?_
        refine x_iald dX9_fix_52 k22 (by omega) (by omega) (by decide) (fun ⟨a23, a23'⟩ => ?_)
        have e24 : M21 476 p = M 476 p := (fr _ _ (by omega) (by omega))
        simp only [e24] at a23 a23' ⊢
        refine x_callVI (as := [iv p, iv t, iv (M 476 p)]) (rest := []) dX9_fix_53 vl9_140 k_468 (c_X9_judgesAnew g M21 p t (M 476 p) (b (M 474 p)) hI (by omega) (by rw [fs 9 (by omega)]; omega) hc (by rw [fr 474 p (by omega) (by omega)]; exact hl.rbb hc9.1.code) hc9.2 (by rw [fs 34 (by omega)]; omega)) rfl rfl (Nat.le_of_ble_eq_true rfl) ⟨Nat.le_of_ble_eq_true rfl, Nat.le_of_ble_eq_true rfl⟩ (fun z25 M27 h26 => ?_)
        have hJ := h26
        refine x_iret dX9_fix_56 rfl rfl ?_
        obtain ⟨M2, k1, k2, k3, k4⟩ := hJ
        rw [fs 18 (by omega)] at k1 k3
        rw [fr 474 p (by omega) (by omega), fs 17 (by omega)] at k4
        exact ⟨_, rfl, Or.inr (⟨by omega, _, _, hl, k1, k2, k3.trans (cnt_congr (by omega) (fun r _ _ => by rw [fr 482 r (by omega) (by omega), hl.vz, vz_code])), RJ.rb hI (by rw [fs 18 (by omega)]; exact k1) hc k2 (by omega) (by rw [fs 9 (by omega)]; omega), hI, hc, k4⟩)⟩
      · refine x_iconst (0) dX9_fix_36 rfl ?_
        refine x_iret dX9_fix_37 rfl rfl ?_
        exfalso; omega
    · refine x_iconst (1) dX9_fix_25 rfl ?_
      refine x_goto (tgt := 30) dX9_fix_26 (by decide) ?_
      refine x_callVIP (as := [iv 1]) (rest := []) dX9_fix_30 vl9_114 k_468 (c_X9_fails g M 1 (by omega) (by omega)) rfl rfl (Nat.le_of_ble_eq_true rfl) ⟨Nat.le_of_ble_eq_true rfl, Nat.le_of_ble_eq_true rfl⟩ (fun z28 h29 => ?_)
      refine x_if_eq (tgt := 38) dX9_fix_33 (by decide) ⟨by omega, by omega⟩ (fun c31 => ?_) (fun c31 => ?_)
      · exfalso; omega
      · refine x_iconst (0) dX9_fix_36 rfl ?_
        refine x_iret dX9_fix_37 rfl rfl ?_
        exact ⟨_, rfl, Or.inl ⟨by omega, rfl⟩⟩
