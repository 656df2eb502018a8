set_option maxHeartbeats 600000 in
set_option maxRecDepth 100000 in
theorem c_X2_takeInput (g : GG) (M : Mem) (a nu : Int) (kn : isK 3 4 nu) (hn : nu + 2 < 10 ∨ 12 < nu) (a0 : 0 ≤ a ∧ a < 4) (t0 : 0 ≤ M 10 3 ∧ M 10 3 ≤ M nu 2 ∧ M nu 2 ≤ 4) : Ct g yX2_takeInput cX2_takeInput 3 none 0 [rv g 10, iv a, rv g nu] M (pV (fun M' => (M 10 3 = M nu 2 ∧ M' = up M 10 6 114) ∨ (M 10 3 ≠ M nu 2 ∧ M' = up (up M 11 a (M (nu + 1) (M 10 3))) 10 3 (M 10 3 + 1)))) := by
  refine ct_of (by decide +kernel) (Nat.le_of_ble_eq_true rfl) ?_
  show Ok g mX2_takeInput (rmd 0) (FQ g (pV (fun M' => (M 10 3 = M nu 2 ∧ M' = up M 10 6 114) ∨ (M 10 3 ≠ M nu 2 ∧ M' = up (up M 11 a (M (nu + 1) (M 10 3))) 10 3 (M 10 3 + 1))))) 0 [(0, rv g 10), (1, iv a), (2, rv g nu)] [] M
  refine x_aload_n 0 dX2_takeInput_0 rfl rfl ?_
  refine x_geti (k := 3) (kI := 3) dX2_takeInput_1 fl2_22 k_10 rfl rfl (fun ⟨a1, a1'⟩ => ?_)
  refine x_aload_n 2 dX2_takeInput_4 rfl rfl ?_
  refine x_geti (k := 2) (kI := 2) dX2_takeInput_5 fl2_79 kn rfl rfl (fun ⟨a2, a2'⟩ => ?_)
  refine x_icmp_lt (tgt := 18) dX2_takeInput_8 (by decide) ⟨by omega, by omega⟩ ⟨by omega, by omega⟩ (fun c3 => ?_) (fun c3 => ?_)
  · refine x_aload_n 0 dX2_takeInput_18 rfl rfl ?_
    refine x_getr (k := 0) (d := 1) dX2_takeInput_19 fl2_9 k_10 rfl (fun k4 => ?_)
    have k4 : isK 20 4 11 := k4
    show Ok g mX2_takeInput (rmd 0) (FQ g (pV (fun M' => (M 10 3 = M nu 2 ∧ M' = up M 10 6 114) ∨ (M 10 3 ≠ M nu 2 ∧ M' = up (up M 11 a (M (nu + 1) (M 10 3))) 10 3 (M 10 3 + 1))))) 22 [(0, rv g 10), (1, iv a), (2, rv g nu)] [rv g 11] M
    refine x_iload_n 1 dX2_takeInput_22 rfl rfl ?_
    refine x_aload_n 2 dX2_takeInput_23 rfl rfl ?_
    refine x_getr (k := 0) (d := 1) dX2_takeInput_24 fl2_82 kn rfl (fun k5 => ?_)
    refine x_aload_n 0 dX2_takeInput_27 rfl rfl ?_
    refine x_geti (k := 3) (kI := 3) dX2_takeInput_28 fl2_22 k_10 rfl rfl (fun ⟨a6, a6'⟩ => ?_)
    refine x_iald dX2_takeInput_31 k5 (by omega) (by omega) (by decide) (fun ⟨a7, a7'⟩ => ?_)
    refine x_iast dX2_takeInput_32 k4 (by omega) (by omega) (by decide) ⟨by omega, by omega⟩ ?_
    refine x_aload_n 0 dX2_takeInput_33 rfl rfl ?_
    refine x_dup dX2_takeInput_34 rfl ?_
    refine x_geti (k := 3) (kI := 3) dX2_takeInput_35 fl2_22 k_10 rfl rfl (fun ⟨a8, a8'⟩ => ?_)
    have e9 : (up M 11 a (M (nu + 1) (M 10 3))) 10 3 = M 10 3 := (by simp (disch := omega) only [up_s, up_o, up_k])
    simp only [e9] at a8 a8' ⊢
    refine x_iconst (1) dX2_takeInput_38 rfl ?_
    refine x_iadd dX2_takeInput_39 ?_
    refine x_puti (k := 3) (kI := 3) dX2_takeInput_40 fw2_22 k_10 rfl ⟨by omega, by omega⟩ rfl rfl rfl ?_
    refine x_vret dX2_takeInput_43 rfl ?_
    exact ⟨rfl, Or.inr ⟨by omega, rfl⟩⟩
  · refine x_aload_n 0 dX2_takeInput_11 rfl rfl ?_
    refine x_bipush (114) dX2_takeInput_12 rfl ?_
    refine x_puti (k := 6) (kI := 6) dX2_takeInput_14 fw2_31 k_10 rfl ⟨by decide, by decide⟩ (iZ_char (by omega) (by omega)) (iZ_charF (by omega) (by omega)) rfl ?_
    refine x_vret dX2_takeInput_17 rfl ?_
    exact ⟨rfl, Or.inl ⟨by omega, rfl⟩⟩

set_option maxHeartbeats 600000 in
set_option maxRecDepth 100000 in
theorem c_X2_putOut (g : GG) (M : Mem) (v : Int) (hv : rg v) (t0 : 0 ≤ M 10 2 ∧ M 10 2 ≤ 6) : Ct g yX2_putOut cX2_putOut 2 none 0 [rv g 10, iv v] M (pV (fun M' => (M 10 2 = 6 ∧ M' = up M 10 6 108) ∨ (M 10 2 ≠ 6 ∧ M' = up (up M 12 (M 10 2) v) 10 2 (M 10 2 + 1)))) := by
  refine ct_of (by decide +kernel) (Nat.le_of_ble_eq_true rfl) ?_
  show Ok g mX2_putOut (rmd 0) (FQ g (pV (fun M' => (M 10 2 = 6 ∧ M' = up M 10 6 108) ∨ (M 10 2 ≠ 6 ∧ M' = up (up M 12 (M 10 2) v) 10 2 (M 10 2 + 1))))) 0 [(0, rv g 10), (1, iv v)] [] M
  have hv1 := hv.1
  have hv2 := hv.2
  refine x_aload_n 0 dX2_putOut_0 rfl rfl ?_
  refine x_geti (k := 2) (kI := 2) dX2_putOut_1 fl2_18 k_10 rfl rfl (fun ⟨a1, a1'⟩ => ?_)
  refine x_bipush (6) dX2_putOut_4 rfl ?_
  refine x_icmp_lt (tgt := 16) dX2_putOut_6 (by decide) ⟨by omega, by omega⟩ ⟨by decide, by decide⟩ (fun c2 => ?_) (fun c2 => ?_)
  · refine x_aload_n 0 dX2_putOut_16 rfl rfl ?_
    refine x_getr (k := 1) (d := 2) dX2_putOut_17 fl2_15 k_10 rfl (fun k3 => ?_)
    have k3 : isK 20 6 12 := k3
    show Ok g mX2_putOut (rmd 0) (FQ g (pV (fun M' => (M 10 2 = 6 ∧ M' = up M 10 6 108) ∨ (M 10 2 ≠ 6 ∧ M' = up (up M 12 (M 10 2) v) 10 2 (M 10 2 + 1))))) 20 [(0, rv g 10), (1, iv v)] [rv g 12] M
    refine x_aload_n 0 dX2_putOut_20 rfl rfl ?_
    refine x_geti (k := 2) (kI := 2) dX2_putOut_21 fl2_18 k_10 rfl rfl (fun ⟨a4, a4'⟩ => ?_)
    refine x_iload_n 1 dX2_putOut_24 rfl rfl ?_
    refine x_iast dX2_putOut_25 k3 (by omega) (by omega) (by decide) ⟨by omega, by omega⟩ ?_
    refine x_aload_n 0 dX2_putOut_26 rfl rfl ?_
    refine x_dup dX2_putOut_27 rfl ?_
    refine x_geti (k := 2) (kI := 2) dX2_putOut_28 fl2_18 k_10 rfl rfl (fun ⟨a5, a5'⟩ => ?_)
    have e6 : (up M 12 (M 10 2) v) 10 2 = M 10 2 := (by simp (disch := omega) only [up_s, up_o, up_k])
    simp only [e6] at a5 a5' ⊢
    refine x_iconst (1) dX2_putOut_31 rfl ?_
    refine x_iadd dX2_putOut_32 ?_
    refine x_puti (k := 2) (kI := 2) dX2_putOut_33 fw2_18 k_10 rfl ⟨by omega, by omega⟩ rfl rfl rfl ?_
    refine x_vret dX2_putOut_36 rfl ?_
    exact ⟨rfl, Or.inr ⟨by omega, rfl⟩⟩
  · refine x_aload_n 0 dX2_putOut_9 rfl rfl ?_
    refine x_bipush (108) dX2_putOut_10 rfl ?_
    refine x_puti (k := 6) (kI := 6) dX2_putOut_12 fw2_31 k_10 rfl ⟨by decide, by decide⟩ (iZ_char (by omega) (by omega)) (iZ_charF (by omega) (by omega)) rfl ?_
    refine x_vret dX2_putOut_15 rfl ?_
    exact ⟨rfl, Or.inl ⟨by omega, rfl⟩⟩

set_option maxHeartbeats 600000 in
set_option maxRecDepth 100000 in
theorem c_X2_divide (g : GG) (M : Mem) (a v : Int) (hv : rg v) (a0 : 0 ≤ a ∧ a < 4) : Ct g yX2_divide cX2_divide 3 none 0 [rv g 10, iv a, iv v] M (pV (fun M' => (v = 0 ∧ M' = up M 10 6 114) ∨ (v ≠ 0 ∧ M' = up M 11 a (dv (M 11 a) v)))) := by
  refine ct_of (by decide +kernel) (Nat.le_of_ble_eq_true rfl) ?_
  show Ok g mX2_divide (rmd 0) (FQ g (pV (fun M' => (v = 0 ∧ M' = up M 10 6 114) ∨ (v ≠ 0 ∧ M' = up M 11 a (dv (M 11 a) v))))) 0 [(0, rv g 10), (1, iv a), (2, iv v)] [] M
  have hv1 := hv.1
  have hv2 := hv.2
  refine x_iload_n 2 dX2_divide_0 rfl rfl ?_
  refine x_if_ne (tgt := 11) dX2_divide_1 (by decide) ⟨by omega, by omega⟩ (fun c1 => ?_) (fun c1 => ?_)
  · refine x_aload_n 0 dX2_divide_11 rfl rfl ?_
    refine x_getr (k := 0) (d := 1) dX2_divide_12 fl2_9 k_10 rfl (fun k2 => ?_)
    have k2 : isK 20 4 11 := k2
    show Ok g mX2_divide (rmd 0) (FQ g (pV (fun M' => (v = 0 ∧ M' = up M 10 6 114) ∨ (v ≠ 0 ∧ M' = up M 11 a (dv (M 11 a) v))))) 15 [(0, rv g 10), (1, iv a), (2, iv v)] [rv g 11] M
    refine x_iload_n 1 dX2_divide_15 rfl rfl ?_
    refine x_dup2 dX2_divide_16 rfl rfl ?_
    refine x_iald dX2_divide_17 k2 (by omega) (by omega) (by decide) (fun ⟨a3, a3'⟩ => ?_)
    refine x_iload_n 2 dX2_divide_18 rfl rfl ?_
    refine x_idivw dX2_divide_19 ⟨by omega, by omega⟩ (by omega) ?_
    refine x_iast dX2_divide_20 k2 (by omega) (by omega) (by decide) (rg_dv _ _) ?_
    refine x_vret dX2_divide_21 rfl ?_
    exact ⟨rfl, Or.inr ⟨by omega, rfl⟩⟩
  · refine x_aload_n 0 dX2_divide_4 rfl rfl ?_
    refine x_bipush (114) dX2_divide_5 rfl ?_
    refine x_puti (k := 6) (kI := 6) dX2_divide_7 fw2_31 k_10 rfl ⟨by decide, by decide⟩ (iZ_char (by omega) (by omega)) (iZ_charF (by omega) (by omega)) rfl ?_
    refine x_vret dX2_divide_10 rfl ?_
    exact ⟨rfl, Or.inl ⟨by omega, rfl⟩⟩

set_option maxHeartbeats 600000 in
set_option maxRecDepth 100000 in
theorem c_X2_goIf (g : GG) (M : Mem) (b v n : Int) (b0 : b = 0 ∨ b = 1) (hv : rg v) (hn : rg n) : Ct g yX2_goIf cX2_goIf 4 none 0 [rv g 10, iv b, iv v, iv n] M (pV (fun M' => (b = 0 ∧ M' = M) ∨ (b = 1 ∧ n ≤ v ∧ M' = up M 10 6 114) ∨ (b = 1 ∧ ¬ n ≤ v ∧ M' = up M 10 4 v))) := by
  refine ct_of (by decide +kernel) (Nat.le_of_ble_eq_true rfl) ?_
  show Ok g mX2_goIf (rmd 0) (FQ g (pV (fun M' => (b = 0 ∧ M' = M) ∨ (b = 1 ∧ n ≤ v ∧ M' = up M 10 6 114) ∨ (b = 1 ∧ ¬ n ≤ v ∧ M' = up M 10 4 v)))) 0 [(0, rv g 10), (1, iv b), (2, iv v), (3, iv n)] [] M
  have hv1 := hv.1
  have hv2 := hv.2
  have hn1 := hn.1
  have hn2 := hn.2
  refine x_iload_n 1 dX2_goIf_0 rfl rfl ?_
  refine x_if_eq (tgt := 18) dX2_goIf_1 (by decide) ⟨by omega, by omega⟩ (fun c1 => ?_) (fun c1 => ?_)
  · refine x_iload_n 1 dX2_goIf_18 rfl rfl ?_
    refine x_if_eq (tgt := 27) dX2_goIf_19 (by decide) ⟨by omega, by omega⟩ (fun c2 => ?_) (fun c2 => ?_)
    · refine x_vret dX2_goIf_27 rfl ?_
      first | omega | exact ⟨rfl, Or.inl ⟨by omega, rfl⟩⟩
    · refine x_aload_n 0 dX2_goIf_22 rfl rfl ?_
      refine x_iload_n 2 dX2_goIf_23 rfl rfl ?_
      refine x_puti (k := 4) (kI := 4) dX2_goIf_24 fw2_25 k_10 rfl ⟨by omega, by omega⟩ rfl rfl rfl ?_
      refine x_vret dX2_goIf_27 rfl ?_
      first | omega | exact ⟨rfl, Or.inr (Or.inr ⟨by omega, by omega, rfl⟩)⟩
  · refine x_iload_n 2 dX2_goIf_4 rfl rfl ?_
    refine x_iload_n 3 dX2_goIf_5 rfl rfl ?_
    refine x_icmp_lt (tgt := 18) dX2_goIf_6 (by decide) ⟨by omega, by omega⟩ ⟨by omega, by omega⟩ (fun c3 => ?_) (fun c3 => ?_)
    · refine x_iload_n 1 dX2_goIf_18 rfl rfl ?_
      refine x_if_eq (tgt := 27) dX2_goIf_19 (by decide) ⟨by omega, by omega⟩ (fun c4 => ?_) (fun c4 => ?_)
      · refine x_vret dX2_goIf_27 rfl ?_
        first | omega | exact ⟨rfl, Or.inl ⟨by omega, rfl⟩⟩
      · refine x_aload_n 0 dX2_goIf_22 rfl rfl ?_
        refine x_iload_n 2 dX2_goIf_23 rfl rfl ?_
        refine x_puti (k := 4) (kI := 4) dX2_goIf_24 fw2_25 k_10 rfl ⟨by omega, by omega⟩ rfl rfl rfl ?_
        refine x_vret dX2_goIf_27 rfl ?_
        first | omega | exact ⟨rfl, Or.inr (Or.inr ⟨by omega, by omega, rfl⟩)⟩
    · refine x_aload_n 0 dX2_goIf_9 rfl rfl ?_
      refine x_bipush (114) dX2_goIf_10 rfl ?_
      refine x_puti (k := 6) (kI := 6) dX2_goIf_12 fw2_31 k_10 rfl ⟨by decide, by decide⟩ (iZ_char (by omega) (by omega)) (iZ_charF (by omega) (by omega)) rfl ?_
      refine x_goto (tgt := 27) dX2_goIf_15 (by decide) ?_
      refine x_vret dX2_goIf_27 rfl ?_
      first | omega | exact ⟨rfl, Or.inr (Or.inl ⟨by omega, by omega, rfl⟩)⟩

set_option maxHeartbeats 600000 in
set_option maxRecDepth 100000 in
theorem c_X2_doNextStep (g : GG) (M : Mem) (M0 s : Mem) (pr nu : Int) (hR : RelA M0 M (up s 5 0 (s 5 0 + 1))) (hp : PG M0 pr) (hn : NU M0 nu) (h4 : 0 ≤ s 4 0 ∧ s 4 0 < M0 pr 3) (h3 : 0 ≤ s 3 0 ∧ s 3 0 ≤ M0 nu 2) (h5 : 0 ≤ s 5 0 ∧ s 5 0 < 1000) : Ct g yX2_doNextStep cX2_doNextStep 6 none 1 [rv g 10, rv g pr, rv g nu] M (pV (fun M' => RelA M0 M' (pstep (M0 pr 3) (fun k => M0 (pr + 1) k) (fun k => M0 (pr + 2) k) (fun k => M0 (pr + 3) k) (M0 nu 2) (fun k => M0 (nu + 1) k) s))) := by
  refine ct_of (by decide +kernel) (Nat.le_of_ble_eq_true rfl) ?_
  show Ok g mX2_doNextStep (rmd 1) (FQ g (pV (fun M' => RelA M0 M' (pstep (M0 pr 3) (fun k => M0 (pr + 1) k) (fun k => M0 (pr + 2) k) (fun k => M0 (pr + 3) k) (M0 nu 2) (fun k => M0 (nu + 1) k) s)))) 0 [(0, rv g 10), (1, rv g pr), (2, rv g nu)] [] M
  have z0 : ∀ k, 0 ≤ k → k < 4 → M 11 k = s 0 k := fun k k0 k1 => (hR.2.1 k k0 k1).trans (up_o (by omega))
  have z2 : M 10 2 = s 2 0 := hR.2.2.1.trans (up_o (by omega))
  have z3 : M 10 3 = s 3 0 := hR.2.2.2.2.1.trans (up_o (by omega))
  have z4 : M 10 4 = s 4 0 := hR.2.2.2.2.2.1.trans (up_o (by omega))
  have z5 : M 10 5 = s 5 0 + 1 := hR.2.2.2.2.2.2.1.trans (up_s _ _ _ _)
  have z9 : 0 ≤ s 2 0 ∧ s 2 0 ≤ 6 := by have h9 := hR.2.2.2.2.2.2.2.2; simp (disch := omega) only [up_o] at h9; exact h9
  have z6 : (s 6 0 = 32 ∧ M 10 6 = 45) ∨ (s 6 0 ≠ 32 ∧ M 10 6 = s 6 0) := by have h9 := hR.2.2.2.2.2.2.2.1; simp (disch := omega) only [up_o] at h9; exact h9
  obtain ⟨kp, p1, p2, p3, p4⟩ := hp
  obtain ⟨kn, n1, n2, n3, n4, n5⟩ := hn
  have g4 := p4 (s 4 0) (by omega) (by omega)
  unfold SOK at g4
  refine x_aload_n 1 dX2_doNextStep_0 rfl rfl ?_
  refine x_getr (k := 0) (d := 1) dX2_doNextStep_1 fl2_53 kp rfl (fun k1 => ?_)
  refine x_aload_n 0 dX2_doNextStep_4 rfl rfl ?_
  refine x_geti (k := 4) (kI := 4) dX2_doNextStep_5 fl2_25 k_10 rfl rfl (fun ⟨a2, a2'⟩ => ?_)
  have e3 : M 10 4 = s 4 0 := z4
  simp only [e3] at a2 a2' ⊢
  refine x_cald dX2_doNextStep_8 k1 (by omega) (by omega) (by decide) (fun ⟨a4, a4'⟩ => ?_)
  have e5 : M (pr + 1) (s 4 0) = M0 (pr + 1) (s 4 0) := (hR.rd (by omega))
  simp only [e5] at a4 a4' ⊢
  refine x_istore_n (lv' := [(3, iv (M0 (pr + 1) (s 4 0))), (0, rv g 10), (1, rv g pr), (2, rv g nu)]) dX2_doNextStep_9 rfl (Nat.le_of_ble_eq_true rfl) rfl ?_
  refine x_aload_n 2 dX2_doNextStep_10 rfl rfl ?_
  refine x_getr (k := 1) (d := 2) dX2_doNextStep_11 fl2_57 kp rfl (fun k6 => ?_)
  refine x_aload_n 1 dX2_doNextStep_14 rfl rfl ?_
  refine x_geti (k := 4) (kI := 4) dX2_doNextStep_15 fl2_25 k_10 rfl rfl (fun ⟨a7, a7'⟩ => ?_)
  have e8 : M 10 4 = s 4 0 := z4
  simp only [e8] at a7 a7' ⊢
  refine x_iald dX2_doNextStep_18 k6 (by omega) (by omega) (by decide) (fun ⟨a9, a9'⟩ => ?_)
  have e10 : M (pr + 2) (s 4 0) = M0 (pr + 2) (s 4 0) := (hR.rd (by omega))
  simp only [e10] at a9 a9' ⊢
  refine x_istore (lv' := [(4, iv (M0 (pr + 2) (s 4 0))), (3, iv (M0 (pr + 1) (s 4 0))), (0, rv g 10), (1, rv g pr), (2, rv g nu)]) dX2_doNextStep_19 (Nat.le_of_ble_eq_true rfl) rfl ?_
  refine x_aload_n 3 dX2_doNextStep_21 rfl rfl ?_
  refine x_getr (k := 2) (d := 3) dX2_doNextStep_22 fl2_60 kp rfl (fun k11 => ?_)
  refine x_aload_n 2 dX2_doNextStep_25 rfl rfl ?_
  refine x_geti (k := 4) (kI := 4) dX2_doNextStep_26 fl2_25 k_10 rfl rfl (fun ⟨a12, a12'⟩ => ?_)
  have e13 : M 10 4 = s 4 0 := z4
  simp only [e13] at a12 a12' ⊢
  refine x_iald dX2_doNextStep_29 k11 (by omega) (by omega) (by decide) (fun ⟨a14, a14'⟩ => ?_)
  have e15 : M (pr + 3) (s 4 0) = M0 (pr + 3) (s 4 0) := (hR.rd (by omega))
  simp only [e15] at a14 a14' ⊢
  refine x_istore (lv' := [(5, iv (M0 (pr + 3) (s 4 0))), (4, iv (M0 (pr + 2) (s 4 0))), (3, iv (M0 (pr + 1) (s 4 0))), (0, rv g 10), (1, rv g pr), (2, rv g nu)]) dX2_doNextStep_30 (Nat.le_of_ble_eq_true rfl) rfl ?_
  refine x_aload_n 3 dX2_doNextStep_32 rfl rfl ?_
  refine x_dup dX2_doNextStep_33 rfl ?_
  refine x_geti (k := 4) (kI := 4) dX2_doNextStep_34 fl2_25 k_10 rfl rfl (fun ⟨a16, a16'⟩ => ?_)
  have e17 : M 10 4 = s 4 0 := z4
  simp only [e17] at a16 a16' ⊢
  refine x_iconst (1) dX2_doNextStep_37 rfl ?_
  refine x_iadd dX2_doNextStep_38 ?_
  refine x_puti (k := 4) (kI := 4) dX2_doNextStep_39 fw2_25 k_10 rfl ⟨by omega, by omega⟩ rfl rfl rfl ?_
  refine x_iload_n 2 dX2_doNextStep_42 rfl rfl ?_
  by_cases c18_0 : M0 (pr + 1) (s 4 0) = 97
  · refine x_tabIn (off := 125) (tgt := 168) dX2_doNextStep_43 ⟨by omega, by omega⟩ (by omega) (by omega) (by rw [c18_0]; rfl) (by decide) ?_
    refine x_aload_n 3 dX2_doNextStep_168 rfl rfl ?_
    refine x_getr (k := 0) (d := 1) dX2_doNextStep_169 fl2_9 k_10 rfl (fun k19 => ?_)
    have k19 : isK 20 4 11 := k19
    show Ok g mX2_doNextStep (rmd 1) (FQ g (pV (fun M' => RelA M0 M' (pstep (M0 pr 3) (fun k => M0 (pr + 1) k) (fun k => M0 (pr + 2) k) (fun k => M0 (pr + 3) k) (M0 nu 2) (fun k => M0 (nu + 1) k) s)))) 172 [(5, iv (M0 (pr + 3) (s 4 0))), (4, iv (M0 (pr + 2) (s 4 0))), (3, iv (M0 (pr + 1) (s 4 0))), (0, rv g 10), (1, rv g pr), (2, rv g nu)] [rv g 11] (up M 10 4 ((s 4 0) + 1))
    refine x_iload 1 dX2_doNextStep_172 rfl ?_
    refine x_dup2 dX2_doNextStep_174 rfl rfl ?_
    refine x_iald dX2_doNextStep_175 k19 (by omega) (by omega) (by decide) (fun ⟨a20, a20'⟩ => ?_)
    have e21 : (up M 10 4 ((s 4 0) + 1)) 11 (M0 (pr + 2) (s 4 0)) = s 0 (M0 (pr + 2) (s 4 0)) := (Eq.trans (b := M 11 (M0 (pr + 2) (s 4 0))) (by simp (disch := omega) only [up_o, up_k]) (z0 _ (by omega) (by omega)))
    simp only [e21] at a20 a20' ⊢
    refine x_aload_n 3 dX2_doNextStep_176 rfl rfl ?_
    refine x_getr (k := 0) (d := 1) dX2_doNextStep_177 fl2_9 k_10 rfl (fun k22 => ?_)
    have k22 : isK 20 4 11 := k22
    show Ok g mX2_doNextStep (rmd 1) (FQ g (pV (fun M' => RelA M0 M' (pstep (M0 pr 3) (fun k => M0 (pr + 1) k) (fun k => M0 (pr + 2) k) (fun k => M0 (pr + 3) k) (M0 nu 2) (fun k => M0 (nu + 1) k) s)))) 180 [(5, iv (M0 (pr + 3) (s 4 0))), (4, iv (M0 (pr + 2) (s 4 0))), (3, iv (M0 (pr + 1) (s 4 0))), (0, rv g 10), (1, rv g pr), (2, rv g nu)] [rv g 11, iv (s 0 (M0 (pr + 2) (s 4 0))), iv (M0 (pr + 2) (s 4 0)), rv g 11] (up M 10 4 ((s 4 0) + 1))
    refine x_iload 0 dX2_doNextStep_180 rfl ?_
    refine x_iald dX2_doNextStep_182 k22 (by omega) (by omega) (by decide) (fun ⟨a23, a23'⟩ => ?_)
    have e24 : (up M 10 4 ((s 4 0) + 1)) 11 (M0 (pr + 3) (s 4 0)) = s 0 (M0 (pr + 3) (s 4 0)) := (Eq.trans (b := M 11 (M0 (pr + 3) (s 4 0))) (by simp (disch := omega) only [up_o, up_k]) (z0 _ (by omega) (by omega)))
    simp only [e24] at a23 a23' ⊢
    refine x_iaddw dX2_doNextStep_183 ?_
    refine x_iast dX2_doNextStep_184 k19 (by omega) (by omega) (by decide) (rg_wr _) ?_
    refine x_goto (tgt := 288) dX2_doNextStep_185 (by decide) ?_
    refine x_vret dX2_doNextStep_288 rfl ?_
    refine ⟨rfl, ?_⟩
    rw [pst_a (by show M0 (pr + 1) (s 4 0) = 97; omega)]
    exact (hR.c (o := 4) (s 4 0 + 1) (by omega)).pl _ _
  by_cases c18_3 : M0 (pr + 1) (s 4 0) = 100
  · refine x_tabIn (off := 165) (tgt := 208) dX2_doNextStep_43 ⟨by omega, by omega⟩ (by omega) (by omega) (by rw [c18_3]; rfl) (by decide) ?_
    refine x_aload_n 3 dX2_doNextStep_208 rfl rfl ?_
    refine x_iload 1 dX2_doNextStep_209 rfl ?_
    refine x_aload_n 3 dX2_doNextStep_211 rfl rfl ?_
    refine x_getr (k := 0) (d := 1) dX2_doNextStep_212 fl2_9 k_10 rfl (fun k25 => ?_)
    have k25 : isK 20 4 11 := k25
    show Ok g mX2_doNextStep (rmd 1) (FQ g (pV (fun M' => RelA M0 M' (pstep (M0 pr 3) (fun k => M0 (pr + 1) k) (fun k => M0 (pr + 2) k) (fun k => M0 (pr + 3) k) (M0 nu 2) (fun k => M0 (nu + 1) k) s)))) 215 [(5, iv (M0 (pr + 3) (s 4 0))), (4, iv (M0 (pr + 2) (s 4 0))), (3, iv (M0 (pr + 1) (s 4 0))), (0, rv g 10), (1, rv g pr), (2, rv g nu)] [rv g 11, iv (M0 (pr + 2) (s 4 0)), rv g 10] (up M 10 4 ((s 4 0) + 1))
    refine x_iload 0 dX2_doNextStep_215 rfl ?_
    refine x_iald dX2_doNextStep_217 k25 (by omega) (by omega) (by decide) (fun ⟨a26, a26'⟩ => ?_)
    have e27 : (up M 10 4 ((s 4 0) + 1)) 11 (M0 (pr + 3) (s 4 0)) = s 0 (M0 (pr + 3) (s 4 0)) := (Eq.trans (b := M 11 (M0 (pr + 3) (s 4 0))) (by simp (disch := omega) only [up_o, up_k]) (z0 _ (by omega) (by omega)))
    simp only [e27] at a26 a26' ⊢
    refine x_callVV (as := [iv (M0 (pr + 2) (s 4 0)), iv (s 0 (M0 (pr + 3) (s 4 0)))]) (rest := []) dX2_doNextStep_218 vl2_71 k_10 (c_X2_divide g (up M 10 4 ((s 4 0) + 1)) (M0 (pr + 2) (s 4 0)) (s 0 (M0 (pr + 3) (s 4 0))) ⟨by omega, by omega⟩ (by omega)) rfl rfl (Nat.le_of_ble_eq_true rfl) ⟨Nat.le_of_ble_eq_true rfl, Nat.le_of_ble_eq_true rfl⟩ (fun M30 h29 => ?_)
    have hc9 := h29
    refine x_goto (tgt := 288) dX2_doNextStep_221 (by decide) ?_
    refine x_vret dX2_doNextStep_288 rfl ?_
    refine ⟨rfl, ?_⟩
    rcases hc9 with ⟨t0, tm⟩ | ⟨t0, tm⟩
    · subst tm
      rw [pst_d0 (by show M0 (pr + 1) (s 4 0) = 100; omega) t0]
      exact (hR.c (o := 4) (s 4 0 + 1) (by omega)).e (by omega)
    · subst tm
      rw [pst_d1 (by show M0 (pr + 1) (s 4 0) = 100; omega) t0]
      have e9 := (hR.c (o := 4) (s 4 0 + 1) (by omega)).pl (M0 (pr + 2) (s 4 0)) (dv (s 0 (M0 (pr + 2) (s 4 0))) (s 0 (M0 (pr + 3) (s 4 0))))
      rw [show up M 10 4 (s 4 0 + 1) 11 (M0 (pr + 2) (s 4 0)) = s 0 (M0 (pr + 2) (s 4 0)) by rw [up_o (by omega), z0 _ (by omega) (by omega)]]
      exact e9
  by_cases c18_8 : M0 (pr + 1) (s 4 0) = 105
  · refine x_tabIn (off := 89) (tgt := 132) dX2_doNextStep_43 ⟨by omega, by omega⟩ (by omega) (by omega) (by rw [c18_8]; rfl) (by decide) ?_
    refine x_aload_n 3 dX2_doNextStep_132 rfl rfl ?_
    refine x_iload 1 dX2_doNextStep_133 rfl ?_
    refine x_aload_n 5 dX2_doNextStep_135 rfl rfl ?_
    refine x_callVV (as := [iv (M0 (pr + 2) (s 4 0)), rv g nu]) (rest := []) dX2_doNextStep_136 vl2_63 k_10 (c_X2_takeInput g (up M 10 4 ((s 4 0) + 1)) (M0 (pr + 2) (s 4 0)) nu kn (by omega) (by omega) (by simp (disch := omega) only [up_k, up_o]; rw [z3, hR.rd (by omega)]; omega)) rfl rfl (Nat.le_of_ble_eq_true rfl) ⟨Nat.le_of_ble_eq_true rfl, Nat.le_of_ble_eq_true rfl⟩ (fun M33 h32 => ?_)
    have hc9 := h32
    refine x_goto (tgt := 288) dX2_doNextStep_139 (by decide) ?_
    refine x_vret dX2_doNextStep_288 rfl ?_
    refine ⟨rfl, ?_⟩
    rcases hc9 with ⟨t0, tm⟩ | ⟨t0, tm⟩
    · subst tm
      rw [pst_i0 (by show M0 (pr + 1) (s 4 0) = 105; omega) (by show s 3 0 = M0 nu 2; rw [up_k (by omega), z3, up_o (by omega), hR.rd (by omega)] at t0; exact t0)]
      exact (hR.c (o := 4) (s 4 0 + 1) (by omega)).e (by omega)
    · subst tm
      rw [pst_i1 (by show M0 (pr + 1) (s 4 0) = 105; omega) (by show s 3 0 ≠ M0 nu 2; rw [up_k (by omega), z3, up_o (by omega), hR.rd (by omega)] at t0; exact t0)]
      have e9 := ((hR.c (o := 4) (s 4 0 + 1) (by omega)).pl (M0 (pr + 2) (s 4 0)) (M0 (nu + 1) (s 3 0))).c (o := 3) (s 3 0 + 1) (by omega)
      rw [show up M 10 4 (s 4 0 + 1) 10 3 = s 3 0 by rw [up_k (by omega), z3], show up M 10 4 (s 4 0 + 1) (nu + 1) (s 3 0) = M0 (nu + 1) (s 3 0) by rw [up_o (by omega), hR.rd (by omega)]]
      exact e9
  by_cases c18_9 : M0 (pr + 1) (s 4 0) = 106
  · refine x_tabIn (off := 181) (tgt := 224) dX2_doNextStep_43 ⟨by omega, by omega⟩ (by omega) (by omega) (by rw [c18_9]; rfl) (by decide) ?_
    refine x_aload_n 3 dX2_doNextStep_224 rfl rfl ?_
    refine x_aload_n 3 dX2_doNextStep_225 rfl rfl ?_
    refine x_getr (k := 0) (d := 1) dX2_doNextStep_226 fl2_9 k_10 rfl (fun k34 => ?_)
    have k34 : isK 20 4 11 := k34
    show Ok g mX2_doNextStep (rmd 1) (FQ g (pV (fun M' => RelA M0 M' (pstep (M0 pr 3) (fun k => M0 (pr + 1) k) (fun k => M0 (pr + 2) k) (fun k => M0 (pr + 3) k) (M0 nu 2) (fun k => M0 (nu + 1) k) s)))) 229 [(5, iv (M0 (pr + 3) (s 4 0))), (4, iv (M0 (pr + 2) (s 4 0))), (3, iv (M0 (pr + 1) (s 4 0))), (0, rv g 10), (1, rv g pr), (2, rv g nu)] [rv g 11, rv g 10] (up M 10 4 ((s 4 0) + 1))
    refine x_iload 1 dX2_doNextStep_229 rfl ?_
    refine x_iald dX2_doNextStep_231 k34 (by omega) (by omega) (by decide) (fun ⟨a35, a35'⟩ => ?_)
    have e36 : (up M 10 4 ((s 4 0) + 1)) 11 (M0 (pr + 2) (s 4 0)) = s 0 (M0 (pr + 2) (s 4 0)) := (Eq.trans (b := M 11 (M0 (pr + 2) (s 4 0))) (by simp (disch := omega) only [up_o, up_k]) (z0 _ (by omega) (by omega)))
    simp only [e36] at a35 a35' ⊢
    refine x_if_eq (tgt := 239) dX2_doNextStep_232 (by decide) ⟨by omega, by omega⟩ (fun c37 => ?_) (fun c37 => ?_)
    · refine x_iconst (0) dX2_doNextStep_239 rfl ?_
      refine x_iload 0 dX2_doNextStep_240 rfl ?_
      refine x_aload_n 4 dX2_doNextStep_242 rfl rfl ?_
      refine x_geti (k := 3) (kI := 3) dX2_doNextStep_243 fl2_38 kp rfl rfl (fun ⟨a38, a38'⟩ => ?_)
      have e39 : (up M 10 4 ((s 4 0) + 1)) pr 3 = M0 pr 3 := (Eq.trans (b := M pr 3) (by simp (disch := omega) only [up_o, up_k]) (hR.rd (by omega)))
      simp only [e39] at a38 a38' ⊢
      refine x_callVV (as := [iv 0, iv (M0 (pr + 3) (s 4 0)), iv (M0 pr 3)]) (rest := []) dX2_doNextStep_246 vl2_75 k_10 (c_X2_goIf g (up M 10 4 ((s 4 0) + 1)) 0 (M0 (pr + 3) (s 4 0)) (M0 pr 3) (by omega) ⟨by omega, by omega⟩ ⟨by omega, by omega⟩) rfl rfl (Nat.le_of_ble_eq_true rfl) ⟨Nat.le_of_ble_eq_true rfl, Nat.le_of_ble_eq_true rfl⟩ (fun M42 h41 => ?_)
      have hc9 := h41
      refine x_goto (tgt := 288) dX2_doNextStep_249 (by decide) ?_
      refine x_vret dX2_doNextStep_288 rfl ?_
      refine ⟨rfl, ?_⟩
      rcases hc9 with ⟨t0, tm⟩ | ⟨t0, t1, tm⟩ | ⟨t0, t1, tm⟩
      · first | omega | (subst tm; rw [pst_j0 (by show M0 (pr + 1) (s 4 0) = 106 ∨ M0 (pr + 1) (s 4 0) = 110; omega) (by show ¬ ((M0 (pr + 1) (s 4 0) = 106 ∧ s 0 (M0 (pr + 2) (s 4 0)) ≠ 0) ∨ (M0 (pr + 1) (s 4 0) = 110 ∧ s 0 (M0 (pr + 2) (s 4 0)) < 0)); omega)]; exact (hR.c (o := 4) (s 4 0 + 1) (by omega)))
      · first | omega | (subst tm; rw [pst_j1 (by show (M0 (pr + 1) (s 4 0) = 106 ∧ s 0 (M0 (pr + 2) (s 4 0)) ≠ 0) ∨ (M0 (pr + 1) (s 4 0) = 110 ∧ s 0 (M0 (pr + 2) (s 4 0)) < 0); omega) (by show M0 pr 3 ≤ M0 (pr + 3) (s 4 0); omega)]; exact (hR.c (o := 4) (s 4 0 + 1) (by omega)).e (by omega))
      · first | omega | (subst tm; rw [pst_j2 (by show (M0 (pr + 1) (s 4 0) = 106 ∧ s 0 (M0 (pr + 2) (s 4 0)) ≠ 0) ∨ (M0 (pr + 1) (s 4 0) = 110 ∧ s 0 (M0 (pr + 2) (s 4 0)) < 0); omega) (by show ¬ M0 pr 3 ≤ M0 (pr + 3) (s 4 0); omega)]; have e9 := hR.c (o := 4) (M0 (pr + 3) (s 4 0)) (by omega); rw [show up (up M 10 4 (s 4 0 + 1)) 10 4 (M0 (pr + 3) (s 4 0)) = up M 10 4 (M0 (pr + 3) (s 4 0)) from up_up _ _ _ _ _]; exact e9)
    · refine x_iconst (1) dX2_doNextStep_235 rfl ?_
      refine x_goto (tgt := 240) dX2_doNextStep_236 (by decide) ?_
      refine x_iload 0 dX2_doNextStep_240 rfl ?_
      refine x_aload_n 4 dX2_doNextStep_242 rfl rfl ?_
      refine x_geti (k := 3) (kI := 3) dX2_doNextStep_243 fl2_38 kp rfl rfl (fun ⟨a43, a43'⟩ => ?_)
      have e44 : (up M 10 4 ((s 4 0) + 1)) pr 3 = M0 pr 3 := (Eq.trans (b := M pr 3) (by simp (disch := omega) only [up_o, up_k]) (hR.rd (by omega)))
      simp only [e44] at a43 a43' ⊢
      refine x_callVV (as := [iv 1, iv (M0 (pr + 3) (s 4 0)), iv (M0 pr 3)]) (rest := []) dX2_doNextStep_246 vl2_75 k_10 (c_X2_goIf g (up M 10 4 ((s 4 0) + 1)) 1 (M0 (pr + 3) (s 4 0)) (M0 pr 3) (by omega) ⟨by omega, by omega⟩ ⟨by omega, by omega⟩) rfl rfl (Nat.le_of_ble_eq_true rfl) ⟨Nat.le_of_ble_eq_true rfl, Nat.le_of_ble_eq_true rfl⟩ (fun M47 h46 => ?_)
      have hc9 := h46
      refine x_goto (tgt := 288) dX2_doNextStep_249 (by decide) ?_
      refine x_vret dX2_doNextStep_288 rfl ?_
      refine ⟨rfl, ?_⟩
      rcases hc9 with ⟨t0, tm⟩ | ⟨t0, t1, tm⟩ | ⟨t0, t1, tm⟩
      · first | omega | (subst tm; rw [pst_j0 (by show M0 (pr + 1) (s 4 0) = 106 ∨ M0 (pr + 1) (s 4 0) = 110; omega) (by show ¬ ((M0 (pr + 1) (s 4 0) = 106 ∧ s 0 (M0 (pr + 2) (s 4 0)) ≠ 0) ∨ (M0 (pr + 1) (s 4 0) = 110 ∧ s 0 (M0 (pr + 2) (s 4 0)) < 0)); omega)]; exact (hR.c (o := 4) (s 4 0 + 1) (by omega)))
      · first | omega | (subst tm; rw [pst_j1 (by show (M0 (pr + 1) (s 4 0) = 106 ∧ s 0 (M0 (pr + 2) (s 4 0)) ≠ 0) ∨ (M0 (pr + 1) (s 4 0) = 110 ∧ s 0 (M0 (pr + 2) (s 4 0)) < 0); omega) (by show M0 pr 3 ≤ M0 (pr + 3) (s 4 0); omega)]; exact (hR.c (o := 4) (s 4 0 + 1) (by omega)).e (by omega))
      · first | omega | (subst tm; rw [pst_j2 (by show (M0 (pr + 1) (s 4 0) = 106 ∧ s 0 (M0 (pr + 2) (s 4 0)) ≠ 0) ∨ (M0 (pr + 1) (s 4 0) = 110 ∧ s 0 (M0 (pr + 2) (s 4 0)) < 0); omega) (by show ¬ M0 pr 3 ≤ M0 (pr + 3) (s 4 0); omega)]; have e9 := hR.c (o := 4) (M0 (pr + 3) (s 4 0)) (by omega); rw [show up (up M 10 4 (s 4 0 + 1)) 10 4 (M0 (pr + 3) (s 4 0)) = up M 10 4 (M0 (pr + 3) (s 4 0)) from up_up _ _ _ _ _]; exact e9)
  by_cases c18_12 : M0 (pr + 1) (s 4 0) = 109
  · refine x_tabIn (off := 145) (tgt := 188) dX2_doNextStep_43 ⟨by omega, by omega⟩ (by omega) (by omega) (by rw [c18_12]; rfl) (by decide) ?_
    refine x_aload_n 3 dX2_doNextStep_188 rfl rfl ?_
    refine x_getr (k := 0) (d := 1) dX2_doNextStep_189 fl2_9 k_10 rfl (fun k48 => ?_)
    have k48 : isK 20 4 11 := k48
    show Ok g mX2_doNextStep (rmd 1) (FQ g (pV (fun M' => RelA M0 M' (pstep (M0 pr 3) (fun k => M0 (pr + 1) k) (fun k => M0 (pr + 2) k) (fun k => M0 (pr + 3) k) (M0 nu 2) (fun k => M0 (nu + 1) k) s)))) 192 [(5, iv (M0 (pr + 3) (s 4 0))), (4, iv (M0 (pr + 2) (s 4 0))), (3, iv (M0 (pr + 1) (s 4 0))), (0, rv g 10), (1, rv g pr), (2, rv g nu)] [rv g 11] (up M 10 4 ((s 4 0) + 1))
    refine x_iload 1 dX2_doNextStep_192 rfl ?_
    refine x_dup2 dX2_doNextStep_194 rfl rfl ?_
    refine x_iald dX2_doNextStep_195 k48 (by omega) (by omega) (by decide) (fun ⟨a49, a49'⟩ => ?_)
    have e50 : (up M 10 4 ((s 4 0) + 1)) 11 (M0 (pr + 2) (s 4 0)) = s 0 (M0 (pr + 2) (s 4 0)) := (Eq.trans (b := M 11 (M0 (pr + 2) (s 4 0))) (by simp (disch := omega) only [up_o, up_k]) (z0 _ (by omega) (by omega)))
    simp only [e50] at a49 a49' ⊢
    refine x_aload_n 3 dX2_doNextStep_196 rfl rfl ?_
    refine x_getr (k := 0) (d := 1) dX2_doNextStep_197 fl2_9 k_10 rfl (fun k51 => ?_)
    have k51 : isK 20 4 11 := k51
    show Ok g mX2_doNextStep (rmd 1) (FQ g (pV (fun M' => RelA M0 M' (pstep (M0 pr 3) (fun k => M0 (pr + 1) k) (fun k => M0 (pr + 2) k) (fun k => M0 (pr + 3) k) (M0 nu 2) (fun k => M0 (nu + 1) k) s)))) 200 [(5, iv (M0 (pr + 3) (s 4 0))), (4, iv (M0 (pr + 2) (s 4 0))), (3, iv (M0 (pr + 1) (s 4 0))), (0, rv g 10), (1, rv g pr), (2, rv g nu)] [rv g 11, iv (s 0 (M0 (pr + 2) (s 4 0))), iv (M0 (pr + 2) (s 4 0)), rv g 11] (up M 10 4 ((s 4 0) + 1))
    refine x_iload 0 dX2_doNextStep_200 rfl ?_
    refine x_iald dX2_doNextStep_202 k51 (by omega) (by omega) (by decide) (fun ⟨a52, a52'⟩ => ?_)
    have e53 : (up M 10 4 ((s 4 0) + 1)) 11 (M0 (pr + 3) (s 4 0)) = s 0 (M0 (pr + 3) (s 4 0)) := (Eq.trans (b := M 11 (M0 (pr + 3) (s 4 0))) (by simp (disch := omega) only [up_o, up_k]) (z0 _ (by omega) (by omega)))
    simp only [e53] at a52 a52' ⊢
    refine x_imulw dX2_doNextStep_203 ?_
    refine x_iast dX2_doNextStep_204 k48 (by omega) (by omega) (by decide) (rg_wr _) ?_
    refine x_goto (tgt := 288) dX2_doNextStep_205 (by decide) ?_
    refine x_vret dX2_doNextStep_288 rfl ?_
    refine ⟨rfl, ?_⟩
    rw [pst_m (by show M0 (pr + 1) (s 4 0) = 109; omega)]
    exact (hR.c (o := 4) (s 4 0 + 1) (by omega)).pl _ _
  by_cases c18_13 : M0 (pr + 1) (s 4 0) = 110
  · refine x_tabIn (off := 209) (tgt := 252) dX2_doNextStep_43 ⟨by omega, by omega⟩ (by omega) (by omega) (by rw [c18_13]; rfl) (by decide) ?_
    refine x_aload_n 3 dX2_doNextStep_252 rfl rfl ?_
    refine x_aload_n 3 dX2_doNextStep_253 rfl rfl ?_
    refine x_getr (k := 0) (d := 1) dX2_doNextStep_254 fl2_9 k_10 rfl (fun k54 => ?_)
    have k54 : isK 20 4 11 := k54
    show Ok g mX2_doNextStep (rmd 1) (FQ g (pV (fun M' => RelA M0 M' (pstep (M0 pr 3) (fun k => M0 (pr + 1) k) (fun k => M0 (pr + 2) k) (fun k => M0 (pr + 3) k) (M0 nu 2) (fun k => M0 (nu + 1) k) s)))) 257 [(5, iv (M0 (pr + 3) (s 4 0))), (4, iv (M0 (pr + 2) (s 4 0))), (3, iv (M0 (pr + 1) (s 4 0))), (0, rv g 10), (1, rv g pr), (2, rv g nu)] [rv g 11, rv g 10] (up M 10 4 ((s 4 0) + 1))
    refine x_iload 1 dX2_doNextStep_257 rfl ?_
    refine x_iald dX2_doNextStep_259 k54 (by omega) (by omega) (by decide) (fun ⟨a55, a55'⟩ => ?_)
    have e56 : (up M 10 4 ((s 4 0) + 1)) 11 (M0 (pr + 2) (s 4 0)) = s 0 (M0 (pr + 2) (s 4 0)) := (Eq.trans (b := M 11 (M0 (pr + 2) (s 4 0))) (by simp (disch := omega) only [up_o, up_k]) (z0 _ (by omega) (by omega)))
    simp only [e56] at a55 a55' ⊢
    refine x_if_ge (tgt := 267) dX2_doNextStep_260 (by decide) ⟨by omega, by omega⟩ (fun c57 => ?_) (fun c57 => ?_)
    · refine x_iconst (0) dX2_doNextStep_267 rfl ?_
      refine x_iload 0 dX2_doNextStep_268 rfl ?_
      refine x_aload_n 4 dX2_doNextStep_270 rfl rfl ?_
      refine x_geti (k := 3) (kI := 3) dX2_doNextStep_271 fl2_38 kp rfl rfl (fun ⟨a58, a58'⟩ => ?_)
      have e59 : (up M 10 4 ((s 4 0) + 1)) pr 3 = M0 pr 3 := (Eq.trans (b := M pr 3) (by simp (disch := omega) only [up_o, up_k]) (hR.rd (by omega)))
      simp only [e59] at a58 a58' ⊢
      refine x_callVV (as := [iv 0, iv (M0 (pr + 3) (s 4 0)), iv (M0 pr 3)]) (rest := []) dX2_doNextStep_274 vl2_75 k_10 (c_X2_goIf g (up M 10 4 ((s 4 0) + 1)) 0 (M0 (pr + 3) (s 4 0)) (M0 pr 3) (by omega) ⟨by omega, by omega⟩ ⟨by omega, by omega⟩) rfl rfl (Nat.le_of_ble_eq_true rfl) ⟨Nat.le_of_ble_eq_true rfl, Nat.le_of_ble_eq_true rfl⟩ (fun M62 h61 => ?_)
      have hc9 := h61
      refine x_goto (tgt := 288) dX2_doNextStep_277 (by decide) ?_
      refine x_vret dX2_doNextStep_288 rfl ?_
      refine ⟨rfl, ?_⟩
      rcases hc9 with ⟨t0, tm⟩ | ⟨t0, t1, tm⟩ | ⟨t0, t1, tm⟩
      · first | omega | (subst tm; rw [pst_j0 (by show M0 (pr + 1) (s 4 0) = 106 ∨ M0 (pr + 1) (s 4 0) = 110; omega) (by show ¬ ((M0 (pr + 1) (s 4 0) = 106 ∧ s 0 (M0 (pr + 2) (s 4 0)) ≠ 0) ∨ (M0 (pr + 1) (s 4 0) = 110 ∧ s 0 (M0 (pr + 2) (s 4 0)) < 0)); omega)]; exact (hR.c (o := 4) (s 4 0 + 1) (by omega)))
      · first | omega | (subst tm; rw [pst_j1 (by show (M0 (pr + 1) (s 4 0) = 106 ∧ s 0 (M0 (pr + 2) (s 4 0)) ≠ 0) ∨ (M0 (pr + 1) (s 4 0) = 110 ∧ s 0 (M0 (pr + 2) (s 4 0)) < 0); omega) (by show M0 pr 3 ≤ M0 (pr + 3) (s 4 0); omega)]; exact (hR.c (o := 4) (s 4 0 + 1) (by omega)).e (by omega))
      · first | omega | (subst tm; rw [pst_j2 (by show (M0 (pr + 1) (s 4 0) = 106 ∧ s 0 (M0 (pr + 2) (s 4 0)) ≠ 0) ∨ (M0 (pr + 1) (s 4 0) = 110 ∧ s 0 (M0 (pr + 2) (s 4 0)) < 0); omega) (by show ¬ M0 pr 3 ≤ M0 (pr + 3) (s 4 0); omega)]; have e9 := hR.c (o := 4) (M0 (pr + 3) (s 4 0)) (by omega); rw [show up (up M 10 4 (s 4 0 + 1)) 10 4 (M0 (pr + 3) (s 4 0)) = up M 10 4 (M0 (pr + 3) (s 4 0)) from up_up _ _ _ _ _]; exact e9)
    · refine x_iconst (1) dX2_doNextStep_263 rfl ?_
      refine x_goto (tgt := 268) dX2_doNextStep_264 (by decide) ?_
      refine x_iload 0 dX2_doNextStep_268 rfl ?_
      refine x_aload_n 4 dX2_doNextStep_270 rfl rfl ?_
      refine x_geti (k := 3) (kI := 3) dX2_doNextStep_271 fl2_38 kp rfl rfl (fun ⟨a63, a63'⟩ => ?_)
      have e64 : (up M 10 4 ((s 4 0) + 1)) pr 3 = M0 pr 3 := (Eq.trans (b := M pr 3) (by simp (disch := omega) only [up_o, up_k]) (hR.rd (by omega)))
      simp only [e64] at a63 a63' ⊢
      refine x_callVV (as := [iv 1, iv (M0 (pr + 3) (s 4 0)), iv (M0 pr 3)]) (rest := []) dX2_doNextStep_274 vl2_75 k_10 (c_X2_goIf g (up M 10 4 ((s 4 0) + 1)) 1 (M0 (pr + 3) (s 4 0)) (M0 pr 3) (by omega) ⟨by omega, by omega⟩ ⟨by omega, by omega⟩) rfl rfl (Nat.le_of_ble_eq_true rfl) ⟨Nat.le_of_ble_eq_true rfl, Nat.le_of_ble_eq_true rfl⟩ (fun M67 h66 => ?_)
      have hc9 := h66
      refine x_goto (tgt := 288) dX2_doNextStep_277 (by decide) ?_
      refine x_vret dX2_doNextStep_288 rfl ?_
      refine ⟨rfl, ?_⟩
      rcases hc9 with ⟨t0, tm⟩ | ⟨t0, t1, tm⟩ | ⟨t0, t1, tm⟩
      · first | omega | (subst tm; rw [pst_j0 (by show M0 (pr + 1) (s 4 0) = 106 ∨ M0 (pr + 1) (s 4 0) = 110; omega) (by show ¬ ((M0 (pr + 1) (s 4 0) = 106 ∧ s 0 (M0 (pr + 2) (s 4 0)) ≠ 0) ∨ (M0 (pr + 1) (s 4 0) = 110 ∧ s 0 (M0 (pr + 2) (s 4 0)) < 0)); omega)]; exact (hR.c (o := 4) (s 4 0 + 1) (by omega)))
      · first | omega | (subst tm; rw [pst_j1 (by show (M0 (pr + 1) (s 4 0) = 106 ∧ s 0 (M0 (pr + 2) (s 4 0)) ≠ 0) ∨ (M0 (pr + 1) (s 4 0) = 110 ∧ s 0 (M0 (pr + 2) (s 4 0)) < 0); omega) (by show M0 pr 3 ≤ M0 (pr + 3) (s 4 0); omega)]; exact (hR.c (o := 4) (s 4 0 + 1) (by omega)).e (by omega))
      · first | omega | (subst tm; rw [pst_j2 (by show (M0 (pr + 1) (s 4 0) = 106 ∧ s 0 (M0 (pr + 2) (s 4 0)) ≠ 0) ∨ (M0 (pr + 1) (s 4 0) = 110 ∧ s 0 (M0 (pr + 2) (s 4 0)) < 0); omega) (by show ¬ M0 pr 3 ≤ M0 (pr + 3) (s 4 0); omega)]; have e9 := hR.c (o := 4) (M0 (pr + 3) (s 4 0)) (by omega); rw [show up (up M 10 4 (s 4 0 + 1)) 10 4 (M0 (pr + 3) (s 4 0)) = up M 10 4 (M0 (pr + 3) (s 4 0)) from up_up _ _ _ _ _]; exact e9)
  by_cases c18_14 : M0 (pr + 1) (s 4 0) = 111
  · refine x_tabIn (off := 99) (tgt := 142) dX2_doNextStep_43 ⟨by omega, by omega⟩ (by omega) (by omega) (by rw [c18_14]; rfl) (by decide) ?_
    refine x_aload_n 3 dX2_doNextStep_142 rfl rfl ?_
    refine x_aload_n 3 dX2_doNextStep_143 rfl rfl ?_
    refine x_getr (k := 0) (d := 1) dX2_doNextStep_144 fl2_9 k_10 rfl (fun k68 => ?_)
    have k68 : isK 20 4 11 := k68
    show Ok g mX2_doNextStep (rmd 1) (FQ g (pV (fun M' => RelA M0 M' (pstep (M0 pr 3) (fun k => M0 (pr + 1) k) (fun k => M0 (pr + 2) k) (fun k => M0 (pr + 3) k) (M0 nu 2) (fun k => M0 (nu + 1) k) s)))) 147 [(5, iv (M0 (pr + 3) (s 4 0))), (4, iv (M0 (pr + 2) (s 4 0))), (3, iv (M0 (pr + 1) (s 4 0))), (0, rv g 10), (1, rv g pr), (2, rv g nu)] [rv g 11, rv g 10] (up M 10 4 ((s 4 0) + 1))
    refine x_iload 1 dX2_doNextStep_147 rfl ?_
    refine x_iald dX2_doNextStep_149 k68 (by omega) (by omega) (by decide) (fun ⟨a69, a69'⟩ => ?_)
    have e70 : (up M 10 4 ((s 4 0) + 1)) 11 (M0 (pr + 2) (s 4 0)) = s 0 (M0 (pr + 2) (s 4 0)) := (Eq.trans (b := M 11 (M0 (pr + 2) (s 4 0))) (by simp (disch := omega) only [up_o, up_k]) (z0 _ (by omega) (by omega)))
    simp only [e70] at a69 a69' ⊢
    refine x_callVV (as := [iv (s 0 (M0 (pr + 2) (s 4 0)))]) (rest := []) dX2_doNextStep_150 vl2_67 k_10 (c_X2_putOut g (up M 10 4 ((s 4 0) + 1)) (s 0 (M0 (pr + 2) (s 4 0))) ⟨by omega, by omega⟩ (by rw [up_k (by omega)]; omega)) rfl rfl (Nat.le_of_ble_eq_true rfl) ⟨Nat.le_of_ble_eq_true rfl, Nat.le_of_ble_eq_true rfl⟩ (fun M73 h72 => ?_)
    have hc9 := h72
    refine x_goto (tgt := 288) dX2_doNextStep_153 (by decide) ?_
    refine x_vret dX2_doNextStep_288 rfl ?_
    refine ⟨rfl, ?_⟩
    rcases hc9 with ⟨t0, tm⟩ | ⟨t0, tm⟩
    · subst tm
      rw [pst_o0 (by show M0 (pr + 1) (s 4 0) = 111; omega) (by rw [up_k (by omega), z2] at t0; exact t0)]
      exact (hR.c (o := 4) (s 4 0 + 1) (by omega)).e (by omega)
    · subst tm
      rw [pst_o1 (by show M0 (pr + 1) (s 4 0) = 111; omega) (by rw [up_k (by omega), z2] at t0; exact t0)]
      have e9 := (hR.c (o := 4) (s 4 0 + 1) (by omega)).ou (s 0 (M0 (pr + 2) (s 4 0))) (by simp (disch := omega) only [up_o]; rw [up_k (by omega), z2] at t0; exact t0)
      simp (disch := omega) only [up_o] at e9
      rw [show up M 10 4 (s 4 0 + 1) 10 2 = s 2 0 by rw [up_k (by omega), z2]]
      exact e9
  by_cases c18_18 : M0 (pr + 1) (s 4 0) = 115
  · refine x_tabIn (off := 113) (tgt := 156) dX2_doNextStep_43 ⟨by omega, by omega⟩ (by omega) (by omega) (by rw [c18_18]; rfl) (by decide) ?_
    refine x_aload_n 3 dX2_doNextStep_156 rfl rfl ?_
    refine x_getr (k := 0) (d := 1) dX2_doNextStep_157 fl2_9 k_10 rfl (fun k74 => ?_)
    have k74 : isK 20 4 11 := k74
    show Ok g mX2_doNextStep (rmd 1) (FQ g (pV (fun M' => RelA M0 M' (pstep (M0 pr 3) (fun k => M0 (pr + 1) k) (fun k => M0 (pr + 2) k) (fun k => M0 (pr + 3) k) (M0 nu 2) (fun k => M0 (nu + 1) k) s)))) 160 [(5, iv (M0 (pr + 3) (s 4 0))), (4, iv (M0 (pr + 2) (s 4 0))), (3, iv (M0 (pr + 1) (s 4 0))), (0, rv g 10), (1, rv g pr), (2, rv g nu)] [rv g 11] (up M 10 4 ((s 4 0) + 1))
    refine x_iload 1 dX2_doNextStep_160 rfl ?_
    refine x_iload 0 dX2_doNextStep_162 rfl ?_
    refine x_iast dX2_doNextStep_164 k74 (by omega) (by omega) (by decide) ⟨by omega, by omega⟩ ?_
    refine x_goto (tgt := 288) dX2_doNextStep_165 (by decide) ?_
    refine x_vret dX2_doNextStep_288 rfl ?_
    refine ⟨rfl, ?_⟩
    rw [pst_s (by show M0 (pr + 1) (s 4 0) = 115; omega)]
    exact (hR.c (o := 4) (s 4 0 + 1) (by omega)).pl _ _
  have c18_r : (M0 (pr + 1) (s 4 0) < 97 ∨ 115 < M0 (pr + 1) (s 4 0)) ∨ M0 (pr + 1) (s 4 0) = 98 ∨ M0 (pr + 1) (s 4 0) = 99 ∨ M0 (pr + 1) (s 4 0) = 101 ∨ M0 (pr + 1) (s 4 0) = 102 ∨ M0 (pr + 1) (s 4 0) = 103 ∨ M0 (pr + 1) (s 4 0) = 104 ∨ M0 (pr + 1) (s 4 0) = 107 ∨ M0 (pr + 1) (s 4 0) = 108 ∨ M0 (pr + 1) (s 4 0) = 112 ∨ M0 (pr + 1) (s 4 0) = 113 ∨ M0 (pr + 1) (s 4 0) = 114 := by omega
  have c18_k : Ok g mX2_doNextStep (rmd 1) (FQ g (pV (fun M' => RelA M0 M' (pstep (M0 pr 3) (fun k => M0 (pr + 1) k) (fun k => M0 (pr + 2) k) (fun k => M0 (pr + 3) k) (M0 nu 2) (fun k => M0 (nu + 1) k) s)))) 280 [(5, iv (M0 (pr + 3) (s 4 0))), (4, iv (M0 (pr + 2) (s 4 0))), (3, iv (M0 (pr + 1) (s 4 0))), (0, rv g 10), (1, rv g pr), (2, rv g nu)] [] (up M 10 4 ((s 4 0) + 1)) := by
    refine x_aload_n 3 dX2_doNextStep_280 rfl rfl ?_
    refine x_aload_n 4 dX2_doNextStep_281 rfl rfl ?_
    refine x_geti (k := 3) (kI := 3) dX2_doNextStep_282 fl2_38 kp rfl rfl (fun ⟨a75, a75'⟩ => ?_)
    have e76 : (up M 10 4 ((s 4 0) + 1)) pr 3 = M0 pr 3 := (Eq.trans (b := M pr 3) (by simp (disch := omega) only [up_o, up_k]) (hR.rd (by omega)))
    simp only [e76] at a75 a75' ⊢
    refine x_puti (k := 4) (kI := 4) dX2_doNextStep_285 fw2_25 k_10 rfl ⟨by omega, by omega⟩ rfl rfl rfl ?_
    refine x_vret dX2_doNextStep_288 rfl ?_
    refine ⟨rfl, ?_⟩
    rw [pst_h (by show M0 (pr + 1) (s 4 0) = 104; omega)]
    have e9 := hR.c (o := 4) (M0 pr 3) (by omega)
    rw [show up (up M 10 4 (s 4 0 + 1)) 10 4 (M0 pr 3) = up M 10 4 (M0 pr 3) from up_up _ _ _ _ _]
    exact e9
  rcases c18_r with c18_r | c18_r | c18_r | c18_r | c18_r | c18_r | c18_r | c18_r | c18_r | c18_r | c18_r | c18_r
  · exact x_tabOut (tgt := 280) dX2_doNextStep_43 ⟨by omega, by omega⟩ c18_r (by decide) c18_k
  · exact x_tabIn (off := 237) (tgt := 280) dX2_doNextStep_43 ⟨by omega, by omega⟩ (by omega) (by omega) (by rw [c18_r]; rfl) (by decide) c18_k
  · exact x_tabIn (off := 237) (tgt := 280) dX2_doNextStep_43 ⟨by omega, by omega⟩ (by omega) (by omega) (by rw [c18_r]; rfl) (by decide) c18_k
  · exact x_tabIn (off := 237) (tgt := 280) dX2_doNextStep_43 ⟨by omega, by omega⟩ (by omega) (by omega) (by rw [c18_r]; rfl) (by decide) c18_k
  · exact x_tabIn (off := 237) (tgt := 280) dX2_doNextStep_43 ⟨by omega, by omega⟩ (by omega) (by omega) (by rw [c18_r]; rfl) (by decide) c18_k
  · exact x_tabIn (off := 237) (tgt := 280) dX2_doNextStep_43 ⟨by omega, by omega⟩ (by omega) (by omega) (by rw [c18_r]; rfl) (by decide) c18_k
  · exact x_tabIn (off := 237) (tgt := 280) dX2_doNextStep_43 ⟨by omega, by omega⟩ (by omega) (by omega) (by rw [c18_r]; rfl) (by decide) c18_k
  · exact x_tabIn (off := 237) (tgt := 280) dX2_doNextStep_43 ⟨by omega, by omega⟩ (by omega) (by omega) (by rw [c18_r]; rfl) (by decide) c18_k
  · exact x_tabIn (off := 237) (tgt := 280) dX2_doNextStep_43 ⟨by omega, by omega⟩ (by omega) (by omega) (by rw [c18_r]; rfl) (by decide) c18_k
  · exact x_tabIn (off := 237) (tgt := 280) dX2_doNextStep_43 ⟨by omega, by omega⟩ (by omega) (by omega) (by rw [c18_r]; rfl) (by decide) c18_k
  · exact x_tabIn (off := 237) (tgt := 280) dX2_doNextStep_43 ⟨by omega, by omega⟩ (by omega) (by omega) (by rw [c18_r]; rfl) (by decide) c18_k
  · exact x_tabIn (off := 237) (tgt := 280) dX2_doNextStep_43 ⟨by omega, by omega⟩ (by omega) (by omega) (by rw [c18_r]; rfl) (by decide) c18_k
