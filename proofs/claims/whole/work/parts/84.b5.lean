set_option maxHeartbeats 600000 in
set_option maxRecDepth 100000 in
theorem c_X8_judgeAnew (g : GG) (M : Mem) (p t : Int) (b : BSt) (C : CR M) (p0 : 0 ≤ p) (p1 : p < M 0 10) (t0 : 0 ≤ t) (t1 : t < M (20 * p + 48) 3) (hPG : ∀ r, 0 ≤ r → r < M 0 12 → PG M (8 * r + 149)) (hNU : NU M (20 * p + 3 * t + 50)) (hI : SI M (-1)) (hD : ∀ r u, 0 ≤ r → r < M 0 12 → 0 ≤ u → u < M (20 * M (8 * r + 148) 5 + 48) 3 → ¬ (M (8 * r + 148) 5 = p ∧ u = t) → DK M r u) (hb : RAb M (M (20 * p + 48) 1) b) (hq : QS 50000 b) : Ct g yX8_judgeAnew cX8_judgeAnew 6 (some .int) 5 [rv g 0, iv p, iv t] M (pI (fun z M' => JAW M p t b z M')) := by
  refine ct_of (by decide +kernel) (Nat.le_of_ble_eq_true rfl) ?_
  show Ok g mX8_judgeAnew (rmd 5) (FQ g (pI (fun z M' => JAW M p t b z M'))) 0 [(0, rv g 0), (1, iv p), (2, iv t)] [] M
  have c0 := C.1
  have cp := C.prob p p0 p1
  have h_5 : ∀ (n_5 : Nat) (M1 : Mem) (h : Int) (i : Int), (0 ≤ i ∧ i ≤ M 0 12) → (JN M p t i M1) → (h = cnt (fun r => M (8 * r + 148) 5 = p ∧ M1 (8 * r + 148) 8 ≠ M (8 * r + 148) 8) i) → (0 ≤ h ∧ h ≤ i) → (M 0 12 - i).toNat < n_5 → Ok g mX8_judgeAnew (rmd 5) (FQ g (pI (fun z M' => JAW M p t b z M'))) 5 [(0, rv g 0), (1, iv p), (2, iv t), (3, iv h), (4, iv i)] [] M1 := by
    intro n_5
    induction n_5 with
    | zero => intro M1 h i j0 j1 j2 j3 hn_5; exact absurd hn_5 (Nat.not_lt_zero _)
    | succ n_5 ih_5 =>
      intro M1 h i j0 j1 j2 j3 hn_5
      refine x_iload 4 dX8_judgeAnew_5 rfl ?_
      refine x_aload_n 0 dX8_judgeAnew_7 rfl rfl ?_
      refine x_geti (k := 12) (kI := 12) dX8_judgeAnew_8 fl8_76 k_0 rfl rfl (fun ⟨a1, a1'⟩ => ?_)
      have e2 : M1 0 12 = M 0 12 := (j1.fld (by omega) (Or.inl (by omega)))
      simp only [e2] at a1 a1' ⊢
      refine x_icmp_ge (tgt := 95) dX8_judgeAnew_11 (by decide) ⟨by omega, by omega⟩ ⟨by omega, by omega⟩ (fun c3 => ?_) (fun c3 => ?_)
      · rw [show i = M 0 12 by omega] at j1 j2
        have D1 := j1.dks C hD
        have C1 := j1.cr C D1
        refine x_aload_n 0 dX8_judgeAnew_95 rfl rfl ?_
        refine x_callVV (as := []) (rest := []) dX8_judgeAnew_96 vl8_154 k_0 (c_X8_recountBoards g M1 C1) rfl rfl (Nat.le_of_ble_eq_true rfl) ⟨Nat.le_of_ble_eq_true rfl, Nat.le_of_ble_eq_true rfl⟩ (fun M6 h5 => ?_)
        have hr := h5
        refine x_aload_n 0 dX8_judgeAnew_99 rfl rfl ?_
        refine x_getr (k := 6) (d := 17) dX8_judgeAnew_100 fl8_52 k_0 rfl (fun k7 => ?_)
        have k7 : isK 0 6 17 := k7
        show Ok g mX8_judgeAnew (rmd 5) (FQ g (pI (fun z M' => JAW M p t b z M'))) 103 [(0, rv g 0), (1, iv p), (2, iv t), (3, iv h), (4, iv i)] [rv g 17] M6
        refine x_aload_n 0 dX8_judgeAnew_103 rfl rfl ?_
        refine x_getr (k := 7) (d := 27) dX8_judgeAnew_104 fl8_59 k_0 rfl (fun k8 => ?_)
        have k8 : isK 1 7 27 := k8
        show Ok g mX8_judgeAnew (rmd 5) (FQ g (pI (fun z M' => JAW M p t b z M'))) 107 [(0, rv g 0), (1, iv p), (2, iv t), (3, iv h), (4, iv i)] [rv g 27, rv g 17] M6
        refine x_iload_n 1 dX8_judgeAnew_107 rfl rfl ?_
        refine x_aload_n 0 dX8_judgeAnew_108 rfl rfl ?_
        refine x_getr (k := 2) (d := 8) dX8_judgeAnew_109 fl8_25 k_0 rfl (fun k9 => ?_)
        have k9 : isK 30 5 8 := k9
        show Ok g mX8_judgeAnew (rmd 5) (FQ g (pI (fun z M' => JAW M p t b z M'))) 112 [(0, rv g 0), (1, iv p), (2, iv t), (3, iv h), (4, iv i)] [rv g 8, iv p, rv g 27, rv g 17] M6
        refine x_iload_n 1 dX8_judgeAnew_112 rfl rfl ?_
        refine x_aald30 dX8_judgeAnew_113 k9 (by omega) (by omega) (by decide) (fun k10 => ?_)
        have ek10 : 8 + (40 + 20 * p) = 20 * p + 48 := by omega
        rw [ek10] at k10 ⊢
        refine x_geti (k := 1) (kI := 1) dX8_judgeAnew_114 fl8_124 k10 rfl rfl (fun ⟨a11, a11'⟩ => ?_)
        have e12 : M6 (20 * p + 48) 1 = M (20 * p + 48) 1 := ((hr.1 _ _ (by omega)).trans (j1.fn (by omega)))
        simp only [e12] at a11 a11' ⊢
        refine x_callVV (as := [rv g 27, iv p, iv (M (20 * p + 48) 1)]) (rest := []) dX8_judgeAnew_117 vl8_186 k7 (c_X0_follow g M6 27 p (M (20 * p + 48) 1) (M 0 11) b (by omega) (by omega) k_27 (by omega) (by rw [hr.2.1.1, hr.1 _ _ (by omega), j1.fn (by omega)]) (by omega) (hb.cong (by omega) (by omega) (fun a k h => (hr.1 a k (by omega)).trans (j1.fn (by omega)))) hq) rfl rfl (Nat.le_of_ble_eq_true rfl) ⟨Nat.le_of_ble_eq_true rfl, Nat.le_of_ble_eq_true rfl⟩ (fun M15 h14 => ?_)
        have hf := h14
        have hs9 : (fun u => M15 29 (5 * u + p) ≠ -1) = (fun u => M6 (27 + 2) (5 * u + p) ≠ -1) := by
          funext u
          rw [show (27 : Int) + 2 = 29 by omega, hf.1 29 _ (by omega) (by omega) (by omega) (by omega)]
        have e12 : 0 ≤ M6 0 12 := by rw [hr.1 _ _ (by omega), j1.fn (by omega)]; omega
        have z1 : ∀ o k, ¬ (17 ≤ o ∧ o ≤ 40) → M15 o k = M1 o k := fun o k h => (hf.1 o k (by omega) (by omega) (by omega) (by omega)).trans (hr.1 o k (by omega))
        have z2 : BOK M15 27 0 := hr.2.1.cong e12 (fun a k h => hf.1 a k (by omega) (by omega) (by omega) (by omega)) (RSM.of (fun a k h => hf.1 a k (by omega) (by omega) (by omega) (by omega)))
        have z3 : BOK M15 34 1 := hr.2.2.cong e12 (fun a k h => hf.1 a k (by omega) (by omega) (by omega) (by omega)) (RSM.of (fun a k h => hf.1 a k (by omega) (by omega) (by omega) (by omega)))
        have z4 : RAb M15 (M (20 * p + 48) 1) (fFo (fun u => M15 29 (5 * u + p) ≠ -1) p (M 0 11) b) := by
          rw [hs9]
          exact hf.2
        have z5 : ∀ o k, 17 ≤ o → o ≤ 26 → o ≠ 18 → o ≠ M (20 * p + 48) 1 + 20 → ¬ (k = M (20 * p + 48) 1 ∧ 24 ≤ o) → ¬ (o = 17 ∧ k = 5) → M15 o k = M o k := fun o k h1 h2 h3 h4 h5 h6 => (hf.1 o k h3 h4 (by omega) h6).trans ((hr.1 o k (by omega)).trans (j1.fn (by omega)))
        refine x_iload_n 3 dX8_judgeAnew_120 rfl rfl ?_
        refine x_iret dX8_judgeAnew_121 rfl rfl ?_
        exact ⟨_, rfl, M1, j1, j2, C1, D1, z1, z2, z3, z4, z5⟩
      · have ci := C.run i (by omega) (by omega)
        refine x_aload_n 0 dX8_judgeAnew_14 rfl rfl ?_
        refine x_getr (k := 3) (d := 9) dX8_judgeAnew_15 fl8_31 k_0 rfl (fun k16 => ?_)
        have k16 : isK 31 40 9 := k16
        show Ok g mX8_judgeAnew (rmd 5) (FQ g (pI (fun z M' => JAW M p t b z M'))) 18 [(0, rv g 0), (1, iv p), (2, iv t), (3, iv h), (4, iv i)] [rv g 9] M1
        refine x_iload 4 dX8_judgeAnew_18 rfl ?_
        refine x_aald31 dX8_judgeAnew_20 k16 (by omega) (by omega) (by decide) (fun k17 => ?_)
        have ek17 : 9 + (139 + 8 * i) = 8 * i + 148 := by omega
        rw [ek17] at k17 ⊢
        refine x_geti (k := 5) (kI := 5) dX8_judgeAnew_21 fl8_166 k17 rfl rfl (fun ⟨a18, a18'⟩ => ?_)
        have e19 : M1 (8 * i + 148) 5 = M (8 * i + 148) 5 := (j1.f148 (by omega) (by omega) (by omega))
        simp only [e19] at a18 a18' ⊢
        refine x_iload_n 1 dX8_judgeAnew_24 rfl rfl ?_
        refine x_icmp_ne (tgt := 89) dX8_judgeAnew_25 (by decide) ⟨by omega, by omega⟩ ⟨by omega, by omega⟩ (fun c20 => ?_) (fun c20 => ?_)
        · refine x_iinc (z := i) (lv' := [(4, iv (i + 1)), (0, rv g 0), (1, iv p), (2, iv t), (3, iv h)]) 4 dX8_judgeAnew_89 rfl (Nat.le_of_ble_eq_true rfl) rfl ?_
          refine x_goto (tgt := 5) dX8_judgeAnew_92 (by decide) ?_
          refine x_sub [1, 2, 3, 4, 0] rfl ?_
          exact ih_5 _ _ _ (by omega) (by exact j1.skip (by omega)) (by rw [cnt_f (by omega) (fun w => by have := w.1; omega)]; exact j2) (by omega) (by omega)
        · have hir : M (8 * i + 148) 5 = p := by omega
          have hPGi : PG M1 (8 * i + 149) := (hPG i (by omega) (by omega)).cong (fun a k h => j1.fld (by omega) (Or.inr (Or.inr ⟨i, by omega⟩)))
          have hNUi : NU M1 (20 * p + 3 * t + 50) := hNU.cong (fun a k h => j1.fld (by omega) (Or.inl (by omega)))
          have fq : ∀ k, M1 (20 * p + 48) k = M (20 * p + 48) k := fun k => j1.fld (by omega) (Or.inl (by omega))
          refine x_aload_n 0 dX8_judgeAnew_28 rfl rfl ?_
          refine x_getr (k := 3) (d := 9) dX8_judgeAnew_29 fl8_31 k_0 rfl (fun k21 => ?_)
          have k21 : isK 31 40 9 := k21
          show Ok g mX8_judgeAnew (rmd 5) (FQ g (pI (fun z M' => JAW M p t b z M'))) 32 [(0, rv g 0), (1, iv p), (2, iv t), (3, iv h), (4, iv i)] [rv g 9] M1
          refine x_iload 4 dX8_judgeAnew_32 rfl ?_
          refine x_aald31 dX8_judgeAnew_34 k21 (by omega) (by omega) (by decide) (fun k22 => ?_)
          have ek22 : 9 + (139 + 8 * i) = 8 * i + 148 := by omega
          rw [ek22] at k22 ⊢
          refine x_geti (k := 8) (kI := 8) dX8_judgeAnew_35 fl8_193 k22 rfl rfl (fun ⟨a23, a23'⟩ => ?_)
          have e24 : M1 (8 * i + 148) 8 = M (8 * i + 148) 8 := (j1.2.2.2.2 i (by omega) (by omega) (fun w => by omega)).1
          simp only [e24] at a23 a23' ⊢
          refine x_istore (lv' := [(5, iv (M (8 * i + 148) 8)), (0, rv g 0), (1, iv p), (2, iv t), (3, iv h), (4, iv i)]) dX8_judgeAnew_38 (Nat.le_of_ble_eq_true rfl) rfl ?_
          refine x_aload_n 1 dX8_judgeAnew_40 rfl rfl ?_
          refine x_aload_n 1 dX8_judgeAnew_41 rfl rfl ?_
          refine x_getr (k := 3) (d := 9) dX8_judgeAnew_42 fl8_31 k_0 rfl (fun k25 => ?_)
          have k25 : isK 31 40 9 := k25
          show Ok g mX8_judgeAnew (rmd 5) (FQ g (pI (fun z M' => JAW M p t b z M'))) 45 [(5, iv (M (8 * i + 148) 8)), (0, rv g 0), (1, iv p), (2, iv t), (3, iv h), (4, iv i)] [rv g 9, rv g 0] M1
          refine x_iload 5 dX8_judgeAnew_45 rfl ?_
          refine x_aald31 dX8_judgeAnew_47 k25 (by omega) (by omega) (by decide) (fun k26 => ?_)
          have ek26 : 9 + (139 + 8 * i) = 8 * i + 148 := by omega
          rw [ek26] at k26 ⊢
          refine x_iload_n 3 dX8_judgeAnew_48 rfl rfl ?_
          refine x_callVV (as := [rv g (8 * i + 148), iv t]) (rest := []) dX8_judgeAnew_49 vl8_329 k_0 (c_X8_judge g M1 i t p (by omega) (by omega) (by omega) (by omega) (by rw [j1.f148 (by omega) (by omega) (by omega)]; omega) (by omega) (by omega) hPGi hNUi (by rw [fq 2]; omega) j1.2.1) rfl rfl (Nat.le_of_ble_eq_true rfl) ⟨Nat.le_of_ble_eq_true rfl, Nat.le_of_ble_eq_true rfl⟩ (fun M29 h28 => ?_)
          have hg := h28
          have hS := j1.step C (by omega) (by omega) hir t0 t1 hPGi hNUi hg
          have hcd : ∀ q, 0 ≤ q → q < M (20 * p + 48) 3 → 0 ≤ M29 (8 * i + 153) q ∧ M29 (8 * i + 153) q < 65536 := fun q q0 q1 => by
            by_cases e : q = t
            · have := hg.2.2.2.1; rw [e]; omega
            · have h4 := (j1.2.2.2.1 i q (by omega) (by omega) q0 (by omega) (hD i q (by omega) (by omega) q0 (by rw [hir]; exact q1) (fun w => e w.2)) (fun w => e w.2)).2.2.2.1
              rw [hg.1 _ _ (by omega) (by omega)]; omega
          have hff : ∀ o k, ¬ (10 ≤ o ∧ o ≤ 16) → ¬ (8 * i + 153 ≤ o ∧ o ≤ 8 * i + 155 ∧ k = t) → M29 o k = M1 o k := hg.1
          have hvr := VZ.rng (f := fun q => M29 (8 * i + 153) q) (n := M (20 * p + 48) 3) (by omega) hcd
          obtain ⟨vv, hvv⟩ : ∃ vv, vv = VZ (fun q => M29 (8 * i + 153) q) (M (20 * p + 48) 3) := ⟨_, rfl⟩
          rw [← hvv] at hvr
          refine x_aload_n 1 dX8_judgeAnew_52 rfl rfl ?_
          refine x_getr (k := 3) (d := 9) dX8_judgeAnew_53 fl8_31 k_0 rfl (fun k30 => ?_)
          have k30 : isK 31 40 9 := k30
          show Ok g mX8_judgeAnew (rmd 5) (FQ g (pI (fun z M' => JAW M p t b z M'))) 56 [(5, iv (M (8 * i + 148) 8)), (0, rv g 0), (1, iv p), (2, iv t), (3, iv h), (4, iv i)] [rv g 9] M29
          refine x_iload 5 dX8_judgeAnew_56 rfl ?_
          refine x_aald31 dX8_judgeAnew_58 k30 (by omega) (by omega) (by decide) (fun k31 => ?_)
          have ek31 : 9 + (139 + 8 * i) = 8 * i + 148 := by omega
          rw [ek31] at k31 ⊢
          refine x_aload_n 1 dX8_judgeAnew_59 rfl rfl ?_
          refine x_getr (k := 2) (d := 8) dX8_judgeAnew_60 fl8_25 k_0 rfl (fun k32 => ?_)
          have k32 : isK 30 5 8 := k32
          show Ok g mX8_judgeAnew (rmd 5) (FQ g (pI (fun z M' => JAW M p t b z M'))) 63 [(5, iv (M (8 * i + 148) 8)), (0, rv g 0), (1, iv p), (2, iv t), (3, iv h), (4, iv i)] [rv g 8, rv g (8 * i + 148)] M29
          refine x_iload_n 2 dX8_judgeAnew_63 rfl rfl ?_
          refine x_aald30 dX8_judgeAnew_64 k32 (by omega) (by omega) (by decide) (fun k33 => ?_)
          have ek33 : 8 + (40 + 20 * p) = 20 * p + 48 := by omega
          rw [ek33] at k33 ⊢
          refine x_geti (k := 3) (kI := 3) dX8_judgeAnew_65 fl8_136 k33 rfl rfl (fun ⟨a34, a34'⟩ => ?_)
          have e35 : M29 (20 * p + 48) 3 = M (20 * p + 48) 3 := ((hff _ _ (by omega) (by omega)).trans (j1.fld (by omega) (Or.inl (by omega))))
          simp only [e35] at a34 a34' ⊢
          refine x_callVV (as := [iv (M (20 * p + 48) 3)]) (rest := []) dX8_judgeAnew_68 vl8_333 k31 (c_X6_conclude g M29 (8 * i + 148) (M (20 * p + 48) 3) (k_run (by omega) (by omega)) (by omega) (fun q q0 q1 => by rw [show (8 * i + 148 : Int) + 5 = 8 * i + 153 by omega]; exact hcd q q0 (by omega))) rfl rfl (Nat.le_of_ble_eq_true rfl) ⟨Nat.le_of_ble_eq_true rfl, Nat.le_of_ble_eq_true rfl⟩ (fun M38 h37 => ?_)
          have hc := h37
          simp only [show (8 * i + 148 : Int) + 5 = 8 * i + 153 by omega] at hc
          have hv8 : M38 (8 * i + 148) 8 = vv := by
            rw [hc, up_k (by omega), up_s]
            exact hvv.symm
          have hS3 : JN M p t (i + 1) M38 := by
            rw [hc]
            exact hS
          have hcc : cnt (fun r => M (8 * r + 148) 5 = p ∧ M38 (8 * r + 148) 8 ≠ M (8 * r + 148) 8) i = cnt (fun r => M (8 * r + 148) 5 = p ∧ M1 (8 * r + 148) 8 ≠ M (8 * r + 148) 8) i := cnt_congr (by omega) (fun q q0 q1 => by rw [hc, up_o (by omega), up_o (by omega), hff _ _ (by omega) (by omega)])
          refine x_aload_n 1 dX8_judgeAnew_71 rfl rfl ?_
          refine x_getr (k := 3) (d := 9) dX8_judgeAnew_72 fl8_31 k_0 rfl (fun k39 => ?_)
          have k39 : isK 31 40 9 := k39
          show Ok g mX8_judgeAnew (rmd 5) (FQ g (pI (fun z M' => JAW M p t b z M'))) 75 [(5, iv (M (8 * i + 148) 8)), (0, rv g 0), (1, iv p), (2, iv t), (3, iv h), (4, iv i)] [rv g 9] M38
          refine x_iload 5 dX8_judgeAnew_75 rfl ?_
          refine x_aald31 dX8_judgeAnew_77 k39 (by omega) (by omega) (by decide) (fun k40 => ?_)
          have ek40 : 9 + (139 + 8 * i) = 8 * i + 148 := by omega
          rw [ek40] at k40 ⊢
          refine x_geti (k := 8) (kI := 8) dX8_judgeAnew_78 fl8_193 k40 rfl rfl (fun ⟨a41, a41'⟩ => ?_)
          have e42 : M38 (8 * i + 148) 8 = vv := hv8
          simp only [e42] at a41 a41' ⊢
          refine x_iload 0 dX8_judgeAnew_81 rfl ?_
          refine x_icmp_eq (tgt := 89) dX8_judgeAnew_83 (by decide) ⟨by omega, by omega⟩ ⟨by omega, by omega⟩ (fun c43 => ?_) (fun c43 => ?_)
          · refine x_iinc (z := i) (lv' := [(4, iv (i + 1)), (5, iv (M (8 * i + 148) 8)), (0, rv g 0), (1, iv p), (2, iv t), (3, iv h)]) 5 dX8_judgeAnew_89 rfl (Nat.le_of_ble_eq_true rfl) rfl ?_
            refine x_goto (tgt := 5) dX8_judgeAnew_92 (by decide) ?_
            refine x_sub [2, 3, 4, 5, 0] rfl ?_
            exact ih_5 _ _ _ (by omega) (by exact hS3) (by rw [cnt_f (by omega) (fun w => by have w2 := w.2; rw [hv8] at w2; omega), hcc, ← j2]) (by omega) (by omega)
          · refine x_iinc (z := h) (lv' := [(3, iv (h + 1)), (5, iv (M (8 * i + 148) 8)), (0, rv g 0), (1, iv p), (2, iv t), (4, iv i)]) 4 dX8_judgeAnew_86 rfl (Nat.le_of_ble_eq_true rfl) rfl ?_
            refine x_iinc (z := i) (lv' := [(4, iv (i + 1)), (3, iv (h + 1)), (5, iv (M (8 * i + 148) 8)), (0, rv g 0), (1, iv p), (2, iv t)]) 5 dX8_judgeAnew_89 rfl (Nat.le_of_ble_eq_true rfl) rfl ?_
            refine x_goto (tgt := 5) dX8_judgeAnew_92 (by decide) ?_
            refine x_sub [3, 4, 5, 1, 0] rfl ?_
            exact ih_5 _ _ _ (by omega) (by exact hS3) (by rw [cnt_t (by omega) ⟨hir, by rw [hv8]; omega⟩, hcc, ← j2]) (by omega) (by omega)
  refine x_iconst (0) dX8_judgeAnew_0 rfl ?_
  refine x_istore_n (lv' := [(3, iv 0), (0, rv g 0), (1, iv p), (2, iv t)]) dX8_judgeAnew_1 rfl (Nat.le_of_ble_eq_true rfl) rfl ?_
  refine x_iconst (0) dX8_judgeAnew_2 rfl ?_
  refine x_istore (lv' := [(4, iv 0), (3, iv 0), (0, rv g 0), (1, iv p), (2, iv t)]) dX8_judgeAnew_3 (Nat.le_of_ble_eq_true rfl) rfl ?_
  refine x_sub [2, 3, 4, 1, 0] rfl ?_
  exact h_5 _ _ _ _ (by omega) (by exact JN.ini hI) (by exact (cnt_0 _).symm) (by omega) (Nat.lt_succ_self _)
