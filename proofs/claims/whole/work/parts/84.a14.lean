set_option maxHeartbeats 600000 in
set_option maxRecDepth 100000 in
theorem c_X8_areBalloonsEarned (g : GG) (M : Mem)  (C : CR M) (hB : BOK M 27 0) (hE : EA M) : Ct g yX8_areBalloonsEarned cX8_areBalloonsEarned 5 (some .boolean) 3 [rv g 0] M (pI (fun z M' => z = 1 ∧ ∀ a k, ¬ (41 ≤ a ∧ a ≤ 47) → M' a k = M a k)) := by
  refine ct_of (by decide +kernel) (Nat.le_of_ble_eq_true rfl) ?_
  show Ok g mX8_areBalloonsEarned (rmd 3) (FQ g (pI (fun z M' => z = 1 ∧ ∀ a k, ¬ (41 ≤ a ∧ a ≤ 47) → M' a k = M a k))) 0 [(0, rv g 0)] [] M
  have c0 := C.1
  have h_22 : ∀ (n_22 : Nat) (M1 : Mem) (t : Int), (0 ≤ t ∧ t ≤ M 0 11) → (∀ a k, ¬ (41 ≤ a ∧ a ≤ 47) → M1 a k = M a k) → (∀ t p, 0 ≤ t → t < M 0 11 → 0 ≤ p → p < M 0 10 → (M 18 (5 * t + p) ≠ 45 ↔ M1 43 (5 * t + p) ≠ -1)) → (M 0 11 - t).toNat < n_22 → Ok g mX8_areBalloonsEarned (rmd 3) (FQ g (pI (fun z M' => z = 1 ∧ ∀ a k, ¬ (41 ≤ a ∧ a ≤ 47) → M' a k = M a k))) 22 [(0, rv g 0), (1, iv t)] [] M1 := by
    intro n_22
    induction n_22 with
    | zero => intro M1 t j0 j1 j2 hn_22; exact absurd hn_22 (Nat.not_lt_zero _)
    | succ n_22 ih_22 =>
      intro M1 t j0 j1 j2 hn_22
      refine x_iload_n 1 dX8_areBalloonsEarned_22 rfl rfl ?_
      refine x_aload_n 0 dX8_areBalloonsEarned_23 rfl rfl ?_
      refine x_geti (k := 11) (kI := 11) dX8_areBalloonsEarned_24 fl8_73 k_0 rfl rfl (fun ⟨a1, a1'⟩ => ?_)
      have e2 : M1 0 11 = M 0 11 := (j1 _ _ (by omega))
      simp only [e2] at a1 a1' ⊢
      refine x_icmp_ge (tgt := 94) dX8_areBalloonsEarned_27 (by decide) ⟨by omega, by omega⟩ ⟨by omega, by omega⟩ (fun c3 => ?_) (fun c3 => ?_)
      · refine x_iconst (1) dX8_areBalloonsEarned_94 rfl ?_
        refine x_iret dX8_areBalloonsEarned_95 rfl (iZ_bool (by omega)) ?_
        exact ⟨_, rfl, rfl, j1⟩
      · refine x_iconst (0) dX8_areBalloonsEarned_30 rfl ?_
        refine x_istore_n (lv' := [(2, iv 0), (0, rv g 0), (1, iv t)]) dX8_areBalloonsEarned_31 rfl (Nat.le_of_ble_eq_true rfl) rfl ?_
        have h_32 : ∀ (n_32 : Nat) (p : Int), (0 ≤ p ∧ p ≤ M 0 10) → (M 0 10 - p).toNat < n_32 → Ok g mX8_areBalloonsEarned (rmd 3) (FQ g (pI (fun z M' => z = 1 ∧ ∀ a k, ¬ (41 ≤ a ∧ a ≤ 47) → M' a k = M a k))) 32 [(0, rv g 0), (1, iv t), (2, iv p)] [] M1 := by
          intro n_32
          induction n_32 with
          | zero => intro p l0 hn_32; exact absurd hn_32 (Nat.not_lt_zero _)
          | succ n_32 ih_32 =>
            intro p l0 hn_32
            refine x_iload_n 2 dX8_areBalloonsEarned_32 rfl rfl ?_
            refine x_aload_n 0 dX8_areBalloonsEarned_33 rfl rfl ?_
            refine x_geti (k := 10) (kI := 10) dX8_areBalloonsEarned_34 fl8_69 k_0 rfl rfl (fun ⟨a4, a4'⟩ => ?_)
            have e5 : M1 0 10 = M 0 10 := (j1 _ _ (by omega))
            simp only [e5] at a4 a4' ⊢
            refine x_icmp_ge (tgt := 88) dX8_areBalloonsEarned_37 (by decide) ⟨by omega, by omega⟩ ⟨by omega, by omega⟩ (fun c6 => ?_) (fun c6 => ?_)
            · refine x_iinc (z := t) (lv' := [(1, iv (t + 1)), (0, rv g 0), (2, iv p)]) 1 dX8_areBalloonsEarned_88 rfl (Nat.le_of_ble_eq_true rfl) rfl ?_
              refine x_goto (tgt := 22) dX8_areBalloonsEarned_91 (by decide) ?_
              refine x_sub [1, 0] rfl ?_
              exact ih_22 _ _ (by omega) (by exact j1) (by exact j2) (by omega)
            · refine x_iload_n 1 dX8_areBalloonsEarned_40 rfl rfl ?_
              refine x_iload_n 2 dX8_areBalloonsEarned_41 rfl rfl ?_
              refine x_callSIP (as := [iv t, iv p]) (rest := []) dX8_areBalloonsEarned_42 sl8_244 (c_X8_spotOf g M1 t p) rfl rfl (Nat.le_of_ble_eq_true rfl) ⟨Nat.le_of_ble_eq_true rfl, Nat.le_of_ble_eq_true rfl⟩ (fun z7 h8 => ?_)
              have hsp := h8
              have hq := j2 t p (by omega) (by omega) (by omega) (by omega)
              rw [← hsp] at hq
              refine x_istore_n (lv' := [(3, iv z7), (0, rv g 0), (1, iv t), (2, iv p)]) dX8_areBalloonsEarned_45 rfl (Nat.le_of_ble_eq_true rfl) rfl ?_
              refine x_aload_n 1 dX8_areBalloonsEarned_46 rfl rfl ?_
              refine x_getr (k := 6) (d := 17) dX8_areBalloonsEarned_47 fl8_52 k_0 rfl (fun k10 => ?_)
              have k10 : isK 0 6 17 := k10
              show Ok g mX8_areBalloonsEarned (rmd 3) (FQ g (pI (fun z M' => z = 1 ∧ ∀ a k, ¬ (41 ≤ a ∧ a ≤ 47) → M' a k = M a k))) 50 [(3, iv z7), (0, rv g 0), (1, iv t), (2, iv p)] [rv g 17] M1
              refine x_getr (k := 0) (d := 1) dX8_areBalloonsEarned_50 fl8_241 k10 rfl (fun k11 => ?_)
              have k11 : isK 21 40 18 := k11
              show Ok g mX8_areBalloonsEarned (rmd 3) (FQ g (pI (fun z M' => z = 1 ∧ ∀ a k, ¬ (41 ≤ a ∧ a ≤ 47) → M' a k = M a k))) 53 [(3, iv z7), (0, rv g 0), (1, iv t), (2, iv p)] [rv g 18] M1
              refine x_iload_n 0 dX8_areBalloonsEarned_53 rfl rfl ?_
              refine x_cald dX8_areBalloonsEarned_54 k11 (by omega) (by omega) (by decide) (fun ⟨a12, a12'⟩ => ?_)
              have e13 : M1 18 z7 = M 18 z7 := (j1 _ _ (by omega))
              simp only [e13] at a12 a12' ⊢
              refine x_bipush (45) dX8_areBalloonsEarned_55 rfl ?_
              refine x_icmp_eq (tgt := 64) dX8_areBalloonsEarned_57 (by decide) ⟨by omega, by omega⟩ ⟨by decide, by decide⟩ (fun c14 => ?_) (fun c14 => ?_)
              · refine x_iconst (0) dX8_areBalloonsEarned_64 rfl ?_
                refine x_istore (lv' := [(4, iv 0), (3, iv z7), (0, rv g 0), (1, iv t), (2, iv p)]) dX8_areBalloonsEarned_65 (Nat.le_of_ble_eq_true rfl) rfl ?_
                refine x_iload 0 dX8_areBalloonsEarned_67 rfl ?_
                refine x_aload_n 2 dX8_areBalloonsEarned_69 rfl rfl ?_
                refine x_getr (k := 9) (d := 41) dX8_areBalloonsEarned_70 fl8_66 k_0 rfl (fun k15 => ?_)
                have k15 : isK 1 7 41 := k15
                show Ok g mX8_areBalloonsEarned (rmd 3) (FQ g (pI (fun z M' => z = 1 ∧ ∀ a k, ¬ (41 ≤ a ∧ a ≤ 47) → M' a k = M a k))) 73 [(4, iv 0), (3, iv z7), (0, rv g 0), (1, iv t), (2, iv p)] [rv g 41, iv 0] M1
                refine x_iload_n 1 dX8_areBalloonsEarned_73 rfl rfl ?_
                refine x_callVIP (as := [iv z7]) (rest := [iv 0]) dX8_areBalloonsEarned_74 vl8_363 k15 (c_X1_hasSolved g M1 41 z7 k_41 (by omega)) rfl rfl (Nat.le_of_ble_eq_true rfl) ⟨Nat.le_of_ble_eq_true rfl, Nat.le_of_ble_eq_true rfl⟩ (fun z16 h17 => ?_)
                have hs := h17
                rw [show (41 : Int) + 2 = 43 by omega] at hs
                refine x_icmp_eq (tgt := 82) dX8_areBalloonsEarned_77 (by decide) ⟨by decide, by decide⟩ ⟨by omega, by omega⟩ (fun c19 => ?_) (fun c19 => ?_)
                · refine x_iinc (z := p) (lv' := [(2, iv (p + 1)), (4, iv 0), (3, iv z7), (0, rv g 0), (1, iv t)]) 4 dX8_areBalloonsEarned_82 rfl (Nat.le_of_ble_eq_true rfl) rfl ?_
                  refine x_goto (tgt := 32) dX8_areBalloonsEarned_85 (by decide) ?_
                  refine x_sub [3, 4, 0] rfl ?_
                  exact ih_32 _ (by omega) (by omega)
                · refine x_iconst (0) dX8_areBalloonsEarned_80 rfl ?_
                  refine x_iret dX8_areBalloonsEarned_81 rfl (iZ_bool (by omega)) ?_
                  exfalso; omega
              · refine x_iconst (1) dX8_areBalloonsEarned_60 rfl ?_
                refine x_goto (tgt := 65) dX8_areBalloonsEarned_61 (by decide) ?_
                refine x_istore (lv' := [(4, iv 1), (3, iv z7), (0, rv g 0), (1, iv t), (2, iv p)]) dX8_areBalloonsEarned_65 (Nat.le_of_ble_eq_true rfl) rfl ?_
                refine x_iload 0 dX8_areBalloonsEarned_67 rfl ?_
                refine x_aload_n 2 dX8_areBalloonsEarned_69 rfl rfl ?_
                refine x_getr (k := 9) (d := 41) dX8_areBalloonsEarned_70 fl8_66 k_0 rfl (fun k20 => ?_)
                have k20 : isK 1 7 41 := k20
                show Ok g mX8_areBalloonsEarned (rmd 3) (FQ g (pI (fun z M' => z = 1 ∧ ∀ a k, ¬ (41 ≤ a ∧ a ≤ 47) → M' a k = M a k))) 73 [(4, iv 1), (3, iv z7), (0, rv g 0), (1, iv t), (2, iv p)] [rv g 41, iv 1] M1
                refine x_iload_n 1 dX8_areBalloonsEarned_73 rfl rfl ?_
                refine x_callVIP (as := [iv z7]) (rest := [iv 1]) dX8_areBalloonsEarned_74 vl8_363 k20 (c_X1_hasSolved g M1 41 z7 k_41 (by omega)) rfl rfl (Nat.le_of_ble_eq_true rfl) ⟨Nat.le_of_ble_eq_true rfl, Nat.le_of_ble_eq_true rfl⟩ (fun z21 h22 => ?_)
                have hs := h22
                rw [show (41 : Int) + 2 = 43 by omega] at hs
                refine x_icmp_eq (tgt := 82) dX8_areBalloonsEarned_77 (by decide) ⟨by decide, by decide⟩ ⟨by omega, by omega⟩ (fun c24 => ?_) (fun c24 => ?_)
                · refine x_iinc (z := p) (lv' := [(2, iv (p + 1)), (4, iv 1), (3, iv z7), (0, rv g 0), (1, iv t)]) 4 dX8_areBalloonsEarned_82 rfl (Nat.le_of_ble_eq_true rfl) rfl ?_
                  refine x_goto (tgt := 32) dX8_areBalloonsEarned_85 (by decide) ?_
                  refine x_sub [3, 4, 0] rfl ?_
                  exact ih_32 _ (by omega) (by omega)
                · refine x_iconst (0) dX8_areBalloonsEarned_80 rfl ?_
                  refine x_iret dX8_areBalloonsEarned_81 rfl (iZ_bool (by omega)) ?_
                  exfalso; omega
        refine x_sub [1, 2, 0] rfl ?_
        exact h_32 _ _ (by omega) (Nat.lt_succ_self _)
  refine x_aload_n 0 dX8_areBalloonsEarned_0 rfl rfl ?_
  refine x_getr (k := 9) (d := 41) dX8_areBalloonsEarned_1 fl8_66 k_0 rfl (fun k25 => ?_)
  have k25 : isK 1 7 41 := k25
  show Ok g mX8_areBalloonsEarned (rmd 3) (FQ g (pI (fun z M' => z = 1 ∧ ∀ a k, ¬ (41 ≤ a ∧ a ≤ 47) → M' a k = M a k))) 4 [(0, rv g 0)] [rv g 41] M
  refine x_aload_n 0 dX8_areBalloonsEarned_4 rfl rfl ?_
  refine x_getr (k := 3) (d := 9) dX8_areBalloonsEarned_5 fl8_31 k_0 rfl (fun k26 => ?_)
  have k26 : isK 31 40 9 := k26
  show Ok g mX8_areBalloonsEarned (rmd 3) (FQ g (pI (fun z M' => z = 1 ∧ ∀ a k, ¬ (41 ≤ a ∧ a ≤ 47) → M' a k = M a k))) 8 [(0, rv g 0)] [rv g 9, rv g 41] M
  refine x_aload_n 0 dX8_areBalloonsEarned_8 rfl rfl ?_
  refine x_geti (k := 12) (kI := 12) dX8_areBalloonsEarned_9 fl8_76 k_0 rfl rfl (fun ⟨a27, a27'⟩ => ?_)
  refine x_aload_n 0 dX8_areBalloonsEarned_12 rfl rfl ?_
  refine x_geti (k := 11) (kI := 11) dX8_areBalloonsEarned_13 fl8_73 k_0 rfl rfl (fun ⟨a28, a28'⟩ => ?_)
  refine x_iconst (0) dX8_areBalloonsEarned_16 rfl ?_
  refine x_callVV (as := [rv g 9, iv (M 0 12), iv (M 0 11), iv 0]) (rest := []) dX8_areBalloonsEarned_17 vl8_325 k25 (c_X1_recount g M 41 (M 0 12) (M 0 11) 0 k_41 (by omega) C.ru (Or.inl rfl) C.pd) rfl rfl (Nat.le_of_ble_eq_true rfl) ⟨Nat.le_of_ble_eq_true rfl, Nat.le_of_ble_eq_true rfl⟩ (fun M31 h30 => ?_)
  have h1 := h30
  have b1 := h1.bok (by omega) (by omega)
  have b2 := hB.cong (by omega) (fun a k h => h1.1 a k (by omega)) (RSM.of (fun a k h => h1.1 a k (by omega)))
  have hEq : ∀ t p, 0 ≤ t → t < M 0 11 → 0 ≤ p → p < M 0 10 → (M 18 (5 * t + p) ≠ 45 ↔ M31 43 (5 * t + p) ≠ -1) := fun t p t0 t1 p0 p1 => by
    have e := b1.fst b2 (t := t) (p := p) t0 (by rw [h1.1 0 11 (by omega)]; omega) (by rw [h1.1 0 11 (by omega)]; omega) p0 (by omega)
    rw [show (41 : Int) + 2 = 43 by omega, show (27 : Int) + 2 = 29 by omega, h1.1 29 _ (by omega)] at e
    rw [e]
    exact hE t p t0 t1 p0 p1
  refine x_iconst (0) dX8_areBalloonsEarned_20 rfl ?_
  refine x_istore_n (lv' := [(1, iv 0), (0, rv g 0)]) dX8_areBalloonsEarned_21 rfl (Nat.le_of_ble_eq_true rfl) rfl ?_
  refine x_sub [1, 0] rfl ?_
  exact h_22 _ _ _ (by omega) (by intro a k h; exact h1.1 a k (by omega)) (by exact hEq) (Nat.lt_succ_self _)

set_option maxHeartbeats 600000 in
set_option maxRecDepth 100000 in
theorem c_X8_isTrue (g : GG) (M : Mem)  (C : CR M) (hB : BOK M 27 0) (hP : BOK M 34 1) (hE : EA M) (hS : ∀ c, 0 ≤ c → c < 4 → ¬ (0 < M 25 c ∧ 0 < M 24 c)) (hD : DKs M) : Ct g yX8_isTrue cX8_isTrue 1 (some .boolean) 7 [rv g 0] M (pI (fun z M' => z = 1 ∧ ∀ a k, ¬ (10 ≤ a ∧ a ≤ 12) → ¬ (41 ≤ a ∧ a ≤ 47) → M' a k = M a k)) := by
  refine ct_of (by decide +kernel) (Nat.le_of_ble_eq_true rfl) ?_
  show Ok g mX8_isTrue (rmd 7) (FQ g (pI (fun z M' => z = 1 ∧ ∀ a k, ¬ (10 ≤ a ∧ a ≤ 12) → ¬ (41 ≤ a ∧ a ≤ 47) → M' a k = M a k))) 0 [(0, rv g 0)] [] M
  have c0 := C.1
  refine x_aload_n 0 dX8_isTrue_0 rfl rfl ?_
  refine x_iconst (1) dX8_isTrue_1 rfl ?_
  refine x_callVI (as := [iv 1]) (rest := []) dX8_isTrue_2 vl8_309 k_0 (c_X8_isRankedAnew g M 1 C (Or.inr rfl) hP) rfl rfl (Nat.le_of_ble_eq_true rfl) ⟨Nat.le_of_ble_eq_true rfl, Nat.le_of_ble_eq_true rfl⟩ (fun z1 M3 h2 => ?_)
  obtain ⟨y1, y2⟩ := h2
  have C1 : CR M3 := C.cong (fun a k h => y2 a k (by omega))
  have B1 : BOK M3 27 0 := hB.cong (by omega) (fun a k h => y2 a k (by omega)) (RSM.of (fun a k h => y2 a k (by omega)))
  refine x_if_eq (tgt := 44) dX8_isTrue_5 (by decide) ⟨by omega, by omega⟩ (fun c4 => ?_) (fun c4 => ?_)
  · refine x_iconst (0) dX8_isTrue_44 rfl ?_
    refine x_iret dX8_isTrue_45 rfl (iZ_bool (by omega)) ?_
    exfalso; omega
  · refine x_aload_n 0 dX8_isTrue_8 rfl rfl ?_
    refine x_iconst (0) dX8_isTrue_9 rfl ?_
    refine x_callVI (as := [iv 0]) (rest := []) dX8_isTrue_10 vl8_309 k_0 (c_X8_isRankedAnew g M3 0 C1 (Or.inl rfl) B1) rfl rfl (Nat.le_of_ble_eq_true rfl) ⟨Nat.le_of_ble_eq_true rfl, Nat.le_of_ble_eq_true rfl⟩ (fun z5 M7 h6 => ?_)
    obtain ⟨w1, w2⟩ := h6
    have f2 : ∀ a k, ¬ (41 ≤ a ∧ a ≤ 47) → M7 a k = M a k := fun a k h => (w2 a k h).trans (y2 a k h)
    have C2 : CR M7 := C.cong (fun a k h => f2 a k (by omega))
    have B2 : BOK M7 27 0 := hB.cong (by omega) (fun a k h => f2 a k (by omega)) (RSM.of (fun a k h => f2 a k (by omega)))
    have E2 : EA M7 := by
      unfold EA at hE ⊢
      rw [f2 0 11 (by omega), f2 0 10 (by omega)]
      intro t p t0 t1 p0 p1
      rw [f2 18 _ (by omega), f2 29 _ (by omega)]
      exact hE t p t0 t1 p0 p1
    refine x_if_eq (tgt := 44) dX8_isTrue_13 (by decide) ⟨by omega, by omega⟩ (fun c8 => ?_) (fun c8 => ?_)
    · refine x_iconst (0) dX8_isTrue_44 rfl ?_
      refine x_iret dX8_isTrue_45 rfl (iZ_bool (by omega)) ?_
      exfalso; omega
    · refine x_aload_n 0 dX8_isTrue_16 rfl rfl ?_
      refine x_callVI (as := []) (rest := []) dX8_isTrue_17 vl8_312 k_0 (c_X8_areBalloonsEarned g M7 C2 B2 E2) rfl rfl (Nat.le_of_ble_eq_true rfl) ⟨Nat.le_of_ble_eq_true rfl, Nat.le_of_ble_eq_true rfl⟩ (fun z9 M11 h10 => ?_)
      obtain ⟨v1, v2⟩ := h10
      have f3 : ∀ a k, ¬ (41 ≤ a ∧ a ≤ 47) → M11 a k = M a k := fun a k h => (v2 a k h).trans (f2 a k h)
      have C3 : CR M11 := C.cong (fun a k h => f3 a k (by omega))
      have S3 : ∀ c, 0 ≤ c → c < 4 → ¬ (0 < M11 25 c ∧ 0 < M11 24 c) := fun c c0 c1 => by rw [f3 25 _ (by omega), f3 24 _ (by omega)]; exact hS c c0 c1
      have D3 : DKs M11 := hD.cong (fun r r0 r1 => by have := C.run r r0 r1; omega) (fun a k h => f3 a k (by omega))
      refine x_if_eq (tgt := 44) dX8_isTrue_20 (by decide) ⟨by omega, by omega⟩ (fun c12 => ?_) (fun c12 => ?_)
      · refine x_iconst (0) dX8_isTrue_44 rfl ?_
        refine x_iret dX8_isTrue_45 rfl (iZ_bool (by omega)) ?_
        exfalso; omega
      · refine x_aload_n 0 dX8_isTrue_23 rfl rfl ?_
        refine x_getr (k := 6) (d := 17) dX8_isTrue_24 fl8_52 k_0 rfl (fun k13 => ?_)
        have k13 : isK 0 6 17 := k13
        show Ok g mX8_isTrue (rmd 7) (FQ g (pI (fun z M' => z = 1 ∧ ∀ a k, ¬ (10 ≤ a ∧ a ≤ 12) → ¬ (41 ≤ a ∧ a ≤ 47) → M' a k = M a k))) 27 [(0, rv g 0)] [rv g 17] M11
        refine x_callVIP (as := []) (rest := []) dX8_isTrue_27 vl8_316 k13 (c_X0_isStockLeftOver g M11) rfl rfl (Nat.le_of_ble_eq_true rfl) ⟨Nat.le_of_ble_eq_true rfl, Nat.le_of_ble_eq_true rfl⟩ (fun z14 h15 => ?_)
        have hz := h15
        have hz2 : z14 = 1 := by
          rcases hz with ⟨e, _⟩ | ⟨_, e⟩
          · exact e
          · exact absurd S3 e
        refine x_if_eq (tgt := 44) dX8_isTrue_30 (by decide) ⟨by omega, by omega⟩ (fun c17 => ?_) (fun c17 => ?_)
        · refine x_iconst (0) dX8_isTrue_44 rfl ?_
          refine x_iret dX8_isTrue_45 rfl (iZ_bool (by omega)) ?_
          exfalso; omega
        · refine x_aload_n 0 dX8_isTrue_33 rfl rfl ?_
          refine x_callVI (as := []) (rest := []) dX8_isTrue_34 vl8_319 k_0 (c_X8_areOutputsAnew g M11 C3 D3) rfl rfl (Nat.le_of_ble_eq_true rfl) ⟨Nat.le_of_ble_eq_true rfl, Nat.le_of_ble_eq_true rfl⟩ (fun z18 M20 h19 => ?_)
          obtain ⟨u1, u2⟩ := h19
          refine x_if_eq (tgt := 44) dX8_isTrue_37 (by decide) ⟨by omega, by omega⟩ (fun c21 => ?_) (fun c21 => ?_)
          · refine x_iconst (0) dX8_isTrue_44 rfl ?_
            refine x_iret dX8_isTrue_45 rfl (iZ_bool (by omega)) ?_
            exfalso; omega
          · refine x_iconst (1) dX8_isTrue_40 rfl ?_
            refine x_goto (tgt := 45) dX8_isTrue_41 (by decide) ?_
            refine x_iret dX8_isTrue_45 rfl (iZ_bool (by omega)) ?_
            exact ⟨_, rfl, rfl, fun a k h1 h2 => (u2 a k h1).trans (f3 a k h2)⟩
