set_option maxHeartbeats 600000 in
set_option maxRecDepth 100000 in
theorem c_X9_judgesAnew (g : GG) (M : Mem) (p t a : Int) (b : BSt) (I : RB M) (p0 : 0 ≤ p) (p1 : p < M 468 9) (hc : TCH M p t a) (hb : RBb M (M 474 p) b) (hq : QS 50000 b) (hst : M 468 34 ≤ 99900) : Ct g yX9_judgesAnew cX9_judgesAnew 8 (some .int) 5 [rv g 468, iv p, iv t, iv a] M (pI (fun z M' => ∃ M2, RJ M p t (M 468 18) M2 ∧ M2 476 p = a ∧ z = cnt (fun r => M 482 r = p ∧ vz M2 r ≠ vz M r) (M 468 18) ∧ BMV M2 (M 474 p) (fFo (fun u => Sol M2 u p) p (M 468 17) b) 8 M')) := by
  refine ct_of (by decide +kernel) (Nat.le_of_ble_eq_true rfl) ?_
  show Ok g mX9_judgesAnew (rmd 5) (FQ g (pI (fun z M' => ∃ M2, RJ M p t (M 468 18) M2 ∧ M2 476 p = a ∧ z = cnt (fun r => M 482 r = p ∧ vz M2 r ≠ vz M r) (M 468 18) ∧ BMV M2 (M 474 p) (fFo (fun u => Sol M2 u p) p (M 468 17) b) 8 M'))) 0 [(0, rv g 468), (1, iv p), (2, iv t), (3, iv a)] [] M
  have i0 := I.rng
  have i1 := I.prob p p0 p1
  obtain ⟨c1, c2, c3, c4, c5, c6, c7, c8, c9⟩ := id hc
  have h_14 : ∀ (n_14 : Nat) (M1 : Mem) (h : Int) (r : Int), (0 ≤ r ∧ r ≤ M 468 18) → (RJ M p t r M1) → (M1 476 p = a ∨ M1 476 p = M 476 p) → (h = cnt (fun q => M 482 q = p ∧ VZ (fun u => M1 488 (6 * q + u)) a ≠ vz M q) r) → (0 ≤ h ∧ h ≤ r) → (M 468 18 - r).toNat < n_14 → Ok g mX9_judgesAnew (rmd 5) (FQ g (pI (fun z M' => ∃ M2, RJ M p t (M 468 18) M2 ∧ M2 476 p = a ∧ z = cnt (fun r => M 482 r = p ∧ vz M2 r ≠ vz M r) (M 468 18) ∧ BMV M2 (M 474 p) (fFo (fun u => Sol M2 u p) p (M 468 17) b) 8 M'))) 14 [(0, rv g 468), (1, iv p), (2, iv t), (3, iv a), (4, iv ((M 476 p))), (5, iv h), (6, iv r)] [] M1 := by
    intro n_14
    induction n_14 with
    | zero => intro M1 h r j0 j1 j2 j3 j4 hn_14; exact absurd hn_14 (Nat.not_lt_zero _)
    | succ n_14 ih_14 =>
      intro M1 h r j0 j1 j2 j3 j4 hn_14
      refine x_iload 6 dX9_judgesAnew_14 rfl ?_
      refine x_aload_n 0 dX9_judgesAnew_16 rfl rfl ?_
      refine x_geti (k := 18) (kI := 18) dX9_judgesAnew_17 fl9_130 k_468 rfl rfl (fun ⟨a1, a1'⟩ => ?_)
      have e2 : M1 468 18 = M 468 18 := (j1.1 _ _ (by omega) (by omega))
      simp only [e2] at a1 a1' ⊢
      refine x_icmp_ge (tgt := 94) dX9_judgesAnew_20 (by decide) ⟨by omega, by omega⟩ ⟨by omega, by omega⟩ (fun c3 => ?_) (fun c3 => ?_)
      · rw [show r = M 468 18 by omega] at j1 j3
        refine x_aload_n 0 dX9_judgesAnew_94 rfl rfl ?_
        refine x_getr (k := 12) (d := 8) dX9_judgesAnew_95 fl9_32 k_468 rfl (fun k4 => ?_)
        have k4 : isK 20 5 476 := k4
        show Ok g mX9_judgesAnew (rmd 5) (FQ g (pI (fun z M' => ∃ M2, RJ M p t (M 468 18) M2 ∧ M2 476 p = a ∧ z = cnt (fun r => M 482 r = p ∧ vz M2 r ≠ vz M r) (M 468 18) ∧ BMV M2 (M 474 p) (fFo (fun u => Sol M2 u p) p (M 468 17) b) 8 M'))) 98 [(0, rv g 468), (1, iv p), (2, iv t), (3, iv a), (4, iv ((M 476 p))), (5, iv h), (6, iv r)] [rv g 476] M1
        refine x_iload_n 1 dX9_judgesAnew_98 rfl rfl ?_
        refine x_iload_n 3 dX9_judgesAnew_99 rfl rfl ?_
        refine x_iast dX9_judgesAnew_100 k4 (by omega) (by omega) (by decide) ⟨by omega, by omega⟩ ?_
        refine x_aload_n 0 dX9_judgesAnew_101 rfl rfl ?_
        refine x_iload_n 1 dX9_judgesAnew_102 rfl rfl ?_
        refine x_callVV (as := [iv p]) (rest := []) dX9_judgesAnew_103 vl9_167 k_468 (c_X9_calls g (up M1 476 p a) p b (j1.set.rb I hc (up_s _ _ _ _) p0 p1) p0 (by rw [up_o (by omega), j1.1 468 9 (by omega) (by omega)]; omega) (by rw [up_o (o' := 474) (by omega), j1.1 474 p (by omega) (by omega)]; exact j1.set.rbb hb) hq (by rw [up_o (by omega), j1.1 468 34 (by omega) (by omega)]; omega)) rfl rfl (Nat.le_of_ble_eq_true rfl) ⟨Nat.le_of_ble_eq_true rfl, Nat.le_of_ble_eq_true rfl⟩ (fun M7 h6 => ?_)
        have hk := h6
        rw [up_o (o' := 474) (by omega), j1.1 474 p (by omega) (by omega), up_o (o' := 468) (by omega), j1.1 468 17 (by omega) (by omega)] at hk
        refine x_iload 5 dX9_judgesAnew_106 rfl ?_
        refine x_iret dX9_judgesAnew_108 rfl rfl ?_
        refine ⟨_, rfl, _, j1.set, up_s _ _ _ _, ?_, hk⟩
        rw [j3]
        refine cnt_congr (by omega) (fun q q0 q1 => and_congr_right fun hq9 => ?_)
        rw [(j1.set (v := a)).vzn hq9 (up_s _ _ _ _)]
        simp (disch := omega) only [up_o]
      · refine x_aload_n 0 dX9_judgesAnew_23 rfl rfl ?_
        refine x_getr (k := 20) (d := 14) dX9_judgesAnew_24 fl9_50 k_468 rfl (fun k8 => ?_)
        have k8 : isK 20 40 482 := k8
        show Ok g mX9_judgesAnew (rmd 5) (FQ g (pI (fun z M' => ∃ M2, RJ M p t (M 468 18) M2 ∧ M2 476 p = a ∧ z = cnt (fun r => M 482 r = p ∧ vz M2 r ≠ vz M r) (M 468 18) ∧ BMV M2 (M 474 p) (fFo (fun u => Sol M2 u p) p (M 468 17) b) 8 M'))) 27 [(0, rv g 468), (1, iv p), (2, iv t), (3, iv a), (4, iv ((M 476 p))), (5, iv h), (6, iv r)] [rv g 482] M1
        refine x_iload 6 dX9_judgesAnew_27 rfl ?_
        refine x_iald dX9_judgesAnew_29 k8 (by omega) (by omega) (by decide) (fun ⟨a9, a9'⟩ => ?_)
        have e10 : M1 482 r = M 482 r := (j1.1 _ _ (by omega) (by omega))
        simp only [e10] at a9 a9' ⊢
        refine x_iload_n 1 dX9_judgesAnew_30 rfl rfl ?_
        refine x_icmp_eq (tgt := 37) dX9_judgesAnew_31 (by decide) ⟨by omega, by omega⟩ ⟨by omega, by omega⟩ (fun c11 => ?_) (fun c11 => ?_)
        · have hpr : M 482 r = p := by omega
          have hB : RJ M p t r (up M1 476 p (M 476 p)) := j1.set
          refine x_aload_n 0 dX9_judgesAnew_37 rfl rfl ?_
          refine x_getr (k := 12) (d := 8) dX9_judgesAnew_38 fl9_32 k_468 rfl (fun k12 => ?_)
          have k12 : isK 20 5 476 := k12
          show Ok g mX9_judgesAnew (rmd 5) (FQ g (pI (fun z M' => ∃ M2, RJ M p t (M 468 18) M2 ∧ M2 476 p = a ∧ z = cnt (fun r => M 482 r = p ∧ vz M2 r ≠ vz M r) (M 468 18) ∧ BMV M2 (M 474 p) (fFo (fun u => Sol M2 u p) p (M 468 17) b) 8 M'))) 41 [(0, rv g 468), (1, iv p), (2, iv t), (3, iv a), (4, iv ((M 476 p))), (5, iv h), (6, iv r)] [rv g 476] M1
          refine x_iload_n 1 dX9_judgesAnew_41 rfl rfl ?_
          refine x_iload 4 dX9_judgesAnew_42 rfl ?_
          refine x_iast dX9_judgesAnew_44 k12 (by omega) (by omega) (by decide) ⟨by omega, by omega⟩ ?_
          refine x_aload_n 0 dX9_judgesAnew_45 rfl rfl ?_
          refine x_iload 6 dX9_judgesAnew_46 rfl ?_
          refine x_callVIP (as := [iv r]) (rest := []) dX9_judgesAnew_48 vl9_160 k_468 (w_X9_verdictOf g (up M1 476 p ((M 476 p))) r (hB.rb0 I hc (Or.inr (up_s _ _ _ _)) p0 p1) (by omega) (by rw [up_o (by omega), j1.1 468 18 (by omega) (by omega)]; omega) (by rw [up_o (o' := 482) (by omega), j1.1 482 r (by omega) (by omega), hpr, up_s]; exact hB.old I r (by omega) (by omega) (by omega) hpr)) rfl rfl (Nat.le_of_ble_eq_true rfl) ⟨Nat.le_of_ble_eq_true rfl, Nat.le_of_ble_eq_true rfl⟩ (fun z13 h14 => ?_)
          have hv1 := h14
          rw [hB.vzo I (by omega) (by omega) (by omega) hpr (up_s _ _ _ _)] at hv1
          refine x_istore (lv' := [(7, iv z13), (0, rv g 468), (1, iv p), (2, iv t), (3, iv a), (4, iv ((M 476 p))), (5, iv h), (6, iv r)]) dX9_judgesAnew_51 (Nat.le_of_ble_eq_true rfl) rfl ?_
          refine x_aload_n 1 dX9_judgesAnew_53 rfl rfl ?_
          refine x_getr (k := 12) (d := 8) dX9_judgesAnew_54 fl9_32 k_468 rfl (fun k16 => ?_)
          have k16 : isK 20 5 476 := k16
          show Ok g mX9_judgesAnew (rmd 5) (FQ g (pI (fun z M' => ∃ M2, RJ M p t (M 468 18) M2 ∧ M2 476 p = a ∧ z = cnt (fun r => M 482 r = p ∧ vz M2 r ≠ vz M r) (M 468 18) ∧ BMV M2 (M 474 p) (fFo (fun u => Sol M2 u p) p (M 468 17) b) 8 M'))) 57 [(7, iv z13), (0, rv g 468), (1, iv p), (2, iv t), (3, iv a), (4, iv ((M 476 p))), (5, iv h), (6, iv r)] [rv g 476] (up M1 476 p ((M 476 p)))
          refine x_iload_n 2 dX9_judgesAnew_57 rfl rfl ?_
          refine x_iload_n 4 dX9_judgesAnew_58 rfl rfl ?_
          refine x_iast dX9_judgesAnew_59 k16 (by omega) (by omega) (by decide) ⟨by omega, by omega⟩ ?_
          refine x_aload_n 1 dX9_judgesAnew_60 rfl rfl ?_
          refine x_iload 7 dX9_judgesAnew_61 rfl ?_
          refine x_iload_n 3 dX9_judgesAnew_63 rfl rfl ?_
          refine x_callVV (as := [iv r, iv t]) (rest := []) dX9_judgesAnew_64 vl9_164 k_468 (c_X9_judges g (up (up M1 476 p ((M 476 p))) 476 p a) r t (hB.set.rb0 I hc (Or.inl (up_s _ _ _ _)) p0 p1) (by omega) (by rw [up_o (by omega), up_o (by omega), j1.1 468 18 (by omega) (by omega)]; omega) (by omega) (by rw [up_o (o' := 482) (by omega), up_o (o' := 482) (by omega), j1.1 482 r (by omega) (by omega), hpr, up_s]; omega)) rfl rfl (Nat.le_of_ble_eq_true rfl) ⟨Nat.le_of_ble_eq_true rfl, Nat.le_of_ble_eq_true rfl⟩ (fun M19 h18 => ?_)
          have hj := h18
          have hS := hB.set.step hpr (by omega) (by omega) (by omega) hj
          have hS0 := hS.1.rb0 I hc (Or.inl hS.2) p0 p1
          refine x_iload 6 dX9_judgesAnew_67 rfl ?_
          refine x_aload_n 1 dX9_judgesAnew_69 rfl rfl ?_
          refine x_iload 7 dX9_judgesAnew_70 rfl ?_
          refine x_callVIP (as := [iv r]) (rest := [iv h]) dX9_judgesAnew_72 vl9_160 k_468 (w_X9_verdictOf g M19 r hS0 (by omega) (by rw [hS.1.1 468 18 (by omega) (by omega)]; omega) (by rw [hS.1.1 482 r (by omega) (by omega), hpr, hS.2]; exact hS.1.new I hc r (by omega) (by omega) (by omega) hpr)) rfl rfl (Nat.le_of_ble_eq_true rfl) ⟨Nat.le_of_ble_eq_true rfl, Nat.le_of_ble_eq_true rfl⟩ (fun z20 h21 => ?_)
          have hv2 := h21
          refine x_iload 0 dX9_judgesAnew_75 rfl ?_
          refine x_icmp_eq (tgt := 84) dX9_judgesAnew_77 (by decide) ⟨by omega, by omega⟩ ⟨by omega, by omega⟩ (fun c23 => ?_) (fun c23 => ?_)
          · refine x_iconst (0) dX9_judgesAnew_84 rfl ?_
            refine x_iadd dX9_judgesAnew_85 ?_
            refine x_istore (lv' := [(5, iv (h + 0)), (7, iv z13), (0, rv g 468), (1, iv p), (2, iv t), (3, iv a), (4, iv ((M 476 p))), (6, iv r)]) dX9_judgesAnew_86 (Nat.le_of_ble_eq_true rfl) rfl ?_
            refine x_iinc (z := r) (lv' := [(6, iv (r + 1)), (5, iv (h + 0)), (7, iv z13), (0, rv g 468), (1, iv p), (2, iv t), (3, iv a), (4, iv ((M 476 p)))]) 7 dX9_judgesAnew_88 rfl (Nat.le_of_ble_eq_true rfl) rfl ?_
            refine x_goto (tgt := 14) dX9_judgesAnew_91 (by decide) ?_
            refine x_sub [3, 4, 5, 6, 7, 1, 0] rfl ?_
            exact ih_14 _ _ _ (by omega) (by exact hS.1) (by left; exact hS.2) (by rw [cnt_f (by omega) (fun w => by rw [← hS.1.vzn (by omega) hS.2] at w; have := w.2; omega), cnt_rj (by omega) (by omega) (by omega) (by omega) (by omega) hj, ← j3]; omega) (by omega) (by omega)
          · refine x_iconst (1) dX9_judgesAnew_80 rfl ?_
            refine x_goto (tgt := 85) dX9_judgesAnew_81 (by decide) ?_
            refine x_iadd dX9_judgesAnew_85 ?_
            refine x_istore (lv' := [(5, iv (h + 1)), (7, iv z13), (0, rv g 468), (1, iv p), (2, iv t), (3, iv a), (4, iv ((M 476 p))), (6, iv r)]) dX9_judgesAnew_86 (Nat.le_of_ble_eq_true rfl) rfl ?_
            refine x_iinc (z := r) (lv' := [(6, iv (r + 1)), (5, iv (h + 1)), (7, iv z13), (0, rv g 468), (1, iv p), (2, iv t), (3, iv a), (4, iv ((M 476 p)))]) 7 dX9_judgesAnew_88 rfl (Nat.le_of_ble_eq_true rfl) rfl ?_
            refine x_goto (tgt := 14) dX9_judgesAnew_91 (by decide) ?_
            refine x_sub [3, 4, 5, 6, 7, 1, 0] rfl ?_
            exact ih_14 _ _ _ (by omega) (by exact hS.1) (by left; exact hS.2) (by rw [cnt_t (by omega) ⟨by omega, by rw [← hS.1.vzn (by omega) hS.2]; omega⟩, cnt_rj (by omega) (by omega) (by omega) (by omega) (by omega) hj, ← j3]) (by omega) (by omega)
        · refine x_goto (tgt := 88) dX9_judgesAnew_34 (by decide) ?_
          refine x_iinc (z := r) (lv' := [(6, iv (r + 1)), (0, rv g 468), (1, iv p), (2, iv t), (3, iv a), (4, iv ((M 476 p))), (5, iv h)]) 6 dX9_judgesAnew_88 rfl (Nat.le_of_ble_eq_true rfl) rfl ?_
          refine x_goto (tgt := 14) dX9_judgesAnew_91 (by decide) ?_
          refine x_sub [1, 2, 3, 4, 5, 6, 0] rfl ?_
          exact ih_14 _ _ _ (by omega) (by exact j1.skip (by omega)) (by exact j2) (by rw [cnt_f (by omega) (fun w => by have := w.1; omega)]; exact j3) (by omega) (by omega)
  refine x_aload_n 0 dX9_judgesAnew_0 rfl rfl ?_
  refine x_getr (k := 12) (d := 8) dX9_judgesAnew_1 fl9_32 k_468 rfl (fun k24 => ?_)
  have k24 : isK 20 5 476 := k24
  show Ok g mX9_judgesAnew (rmd 5) (FQ g (pI (fun z M' => ∃ M2, RJ M p t (M 468 18) M2 ∧ M2 476 p = a ∧ z = cnt (fun r => M 482 r = p ∧ vz M2 r ≠ vz M r) (M 468 18) ∧ BMV M2 (M 474 p) (fFo (fun u => Sol M2 u p) p (M 468 17) b) 8 M'))) 4 [(0, rv g 468), (1, iv p), (2, iv t), (3, iv a)] [rv g 476] M
  refine x_iload_n 1 dX9_judgesAnew_4 rfl rfl ?_
  refine x_iald dX9_judgesAnew_5 k24 (by omega) (by omega) (by decide) (fun ⟨a25, a25'⟩ => ?_)
  refine x_istore (lv' := [(4, iv (M 476 p)), (0, rv g 468), (1, iv p), (2, iv t), (3, iv a)]) dX9_judgesAnew_6 (Nat.le_of_ble_eq_true rfl) rfl ?_
  refine x_iconst (0) dX9_judgesAnew_8 rfl ?_
  refine x_istore (lv' := [(5, iv 0), (4, iv (M 476 p)), (0, rv g 468), (1, iv p), (2, iv t), (3, iv a)]) dX9_judgesAnew_9 (Nat.le_of_ble_eq_true rfl) rfl ?_
  refine x_iconst (0) dX9_judgesAnew_11 rfl ?_
  refine x_istore (lv' := [(6, iv 0), (5, iv 0), (4, iv (M 476 p)), (0, rv g 468), (1, iv p), (2, iv t), (3, iv a)]) dX9_judgesAnew_12 (Nat.le_of_ble_eq_true rfl) rfl ?_
  refine x_sub [3, 4, 5, 6, 2, 1, 0] rfl ?_
  exact h_14 _ _ _ _ (by omega) (by exact RJ.ini) (by right; rfl) (by exact (cnt_0 _).symm) (by omega) (Nat.lt_succ_self _)
