set_option maxHeartbeats 600000 in
set_option maxRecDepth 100000 in
theorem w_X9_failedOf (g : GG) (M : Mem) (r : Int) (I : RB0 M) (r0 : 0 ≤ r) (r1 : r < M 468 18) : Ct g yX9_failedOf cX9_failedOf 3 (some .int) 0 [rv g 468, iv r] M (pIP (fun z => z = fz M r) M) := by
  refine ct_of (by decide +kernel) (Nat.le_of_ble_eq_true rfl) ?_
  show Ok g mX9_failedOf (rmd 0) (FQ g (pIP (fun z => z = fz M r) M)) 0 [(0, rv g 468), (1, iv r)] [] M
  have i0 := I.rng
  have i1 := I.run r r0 r1
  have i2 := I.prob (M 482 r) (by omega) (by omega)
  have h_2 : ∀ (n_2 : Nat) (t : Int), (0 ≤ t) → (t ≤ (M 476 ((M 482 (r))))) → (∀ q, 0 ≤ q → q < t → (M 488 (6 * r + q)) = 111) → ((M 476 ((M 482 (r)))) - t).toNat < n_2 → Ok g mX9_failedOf (rmd 0) (FQ g (pIP (fun z => z = fz M r) M)) 2 [(0, rv g 468), (1, iv r), (2, iv t)] [] M := by
    intro n_2
    induction n_2 with
    | zero => intro t j0 j1 j2 hn_2; exact absurd hn_2 (Nat.not_lt_zero _)
    | succ n_2 ih_2 =>
      intro t j0 j1 j2 hn_2
      refine x_iload_n 2 dX9_failedOf_2 rfl rfl ?_
      refine x_aload_n 0 dX9_failedOf_3 rfl rfl ?_
      refine x_getr (k := 12) (d := 8) dX9_failedOf_4 fl9_32 k_468 rfl (fun k1 => ?_)
      have k1 : isK 20 5 476 := k1
      show Ok g mX9_failedOf (rmd 0) (FQ g (pIP (fun z => z = fz M r) M)) 7 [(0, rv g 468), (1, iv r), (2, iv t)] [rv g 476, iv t] M
      refine x_aload_n 0 dX9_failedOf_7 rfl rfl ?_
      refine x_getr (k := 20) (d := 14) dX9_failedOf_8 fl9_50 k_468 rfl (fun k2 => ?_)
      have k2 : isK 20 40 482 := k2
      show Ok g mX9_failedOf (rmd 0) (FQ g (pIP (fun z => z = fz M r) M)) 11 [(0, rv g 468), (1, iv r), (2, iv t)] [rv g 482, rv g 476, iv t] M
      refine x_iload_n 1 dX9_failedOf_11 rfl rfl ?_
      refine x_iald dX9_failedOf_12 k2 (by omega) (by omega) (by decide) (fun ⟨a3, a3'⟩ => ?_)
      refine x_iald dX9_failedOf_13 k1 (by omega) (by omega) (by decide) (fun ⟨a4, a4'⟩ => ?_)
      refine x_icmp_ge (tgt := 41) dX9_failedOf_14 (by decide) ⟨by omega, by omega⟩ ⟨by omega, by omega⟩ (fun c5 => ?_) (fun c5 => ?_)
      · refine x_iconst (-1) dX9_failedOf_41 rfl ?_
        refine x_iret dX9_failedOf_42 rfl rfl ?_
        exact ⟨_, rfl, rfl, (lst_eq (by omega) (Or.inl ⟨by omega, fun q q0 q1 e => e (j2 q q0 (by omega))⟩)).symm⟩
      · refine x_aload_n 0 dX9_failedOf_17 rfl rfl ?_
        refine x_getr (k := 26) (d := 20) dX9_failedOf_18 fl9_68 k_468 rfl (fun k6 => ?_)
        have k6 : isK 21 240 488 := k6
        show Ok g mX9_failedOf (rmd 0) (FQ g (pIP (fun z => z = fz M r) M)) 21 [(0, rv g 468), (1, iv r), (2, iv t)] [rv g 488] M
        refine x_bipush (6) dX9_failedOf_21 rfl ?_
        refine x_iload_n 1 dX9_failedOf_23 rfl rfl ?_
        refine x_imul dX9_failedOf_24 ?_
        refine x_iload_n 2 dX9_failedOf_25 rfl rfl ?_
        refine x_iadd dX9_failedOf_26 ?_
        refine x_cald dX9_failedOf_27 k6 (by omega) (by omega) (by decide) (fun ⟨a7, a7'⟩ => ?_)
        refine x_bipush (111) dX9_failedOf_28 rfl ?_
        refine x_icmp_eq (tgt := 35) dX9_failedOf_30 (by decide) ⟨by omega, by omega⟩ ⟨by decide, by decide⟩ (fun c8 => ?_) (fun c8 => ?_)
        · refine x_iinc (z := t) (lv' := [(2, iv (t + 1)), (0, rv g 468), (1, iv r)]) 2 dX9_failedOf_35 rfl (Nat.le_of_ble_eq_true rfl) rfl ?_
          refine x_goto (tgt := 2) dX9_failedOf_38 (by decide) ?_
          refine x_sub [1, 2, 0] rfl ?_
          exact ih_2 _ (by omega) (by omega) (by exact ext_lt j2 (by assumption)) (by omega)
        · refine x_iload_n 2 dX9_failedOf_33 rfl rfl ?_
          refine x_iret dX9_failedOf_34 rfl rfl ?_
          exact ⟨_, rfl, rfl, (lst_eq (by omega) (Or.inr ⟨by omega, by omega, by assumption, fun q q0 q1 e => e (j2 q q0 q1)⟩)).symm⟩
  refine x_iconst (0) dX9_failedOf_0 rfl ?_
  refine x_istore_n (lv' := [(2, iv 0), (0, rv g 468), (1, iv r)]) dX9_failedOf_1 rfl (Nat.le_of_ble_eq_true rfl) rfl ?_
  refine x_sub [1, 2, 0] rfl ?_
  exact h_2 _ _ (by omega) (by omega) (by intro q _ _; omega) (Nat.lt_succ_self _)

set_option maxHeartbeats 600000 in
set_option maxRecDepth 100000 in
theorem w_X9_verdictOf (g : GG) (M : Mem) (r : Int) (I : RB0 M) (r0 : 0 ≤ r) (r1 : r < M 468 18) (hE : ∀ t, 0 ≤ t → t < M 476 (M 482 r) → M 488 (6 * r + t) = 111 ∨ M 488 (6 * r + t) = 119 ∨ M 488 (6 * r + t) = 114 ∨ M 488 (6 * r + t) = 108 ∨ M 488 (6 * r + t) = 116) : Ct g yX9_verdictOf cX9_verdictOf 3 (some .char) 1 [rv g 468, iv r] M (pIP (fun z => z = vz M r ∧ 0 ≤ z ∧ z < 65536) M) := by
  refine ct_of (by decide +kernel) (Nat.le_of_ble_eq_true rfl) ?_
  show Ok g mX9_verdictOf (rmd 1) (FQ g (pIP (fun z => z = vz M r ∧ 0 ≤ z ∧ z < 65536) M)) 0 [(0, rv g 468), (1, iv r)] [] M
  have i0 := I.rng
  have i1 := I.run r r0 r1
  have i2 := I.prob (M 482 r) (by omega) (by omega)
  refine x_aload_n 0 dX9_verdictOf_0 rfl rfl ?_
  refine x_iload_n 1 dX9_verdictOf_1 rfl rfl ?_
  refine x_callVIP (as := [iv r]) (rest := []) dX9_verdictOf_2 vl9_156 k_468 (w_X9_failedOf g M r I (by omega) (by omega)) rfl rfl (Nat.le_of_ble_eq_true rfl) ⟨Nat.le_of_ble_eq_true rfl, Nat.le_of_ble_eq_true rfl⟩ (fun z1 h2 => ?_)
  have hfz := h2
  have hfr := fz_rng (M := M) (r := r) (by omega)
  have hvz : vz M r = if fz M r = -1 then 97 else M 488 (6 * r + fz M r) := rfl
  rw [← hfz] at hvz hfr
  refine x_istore_n (lv' := [(2, iv z1), (0, rv g 468), (1, iv r)]) dX9_verdictOf_5 rfl (Nat.le_of_ble_eq_true rfl) rfl ?_
  refine x_iload_n 0 dX9_verdictOf_6 rfl rfl ?_
  refine x_iconst (-1) dX9_verdictOf_7 rfl ?_
  refine x_icmp_ne (tgt := 16) dX9_verdictOf_8 (by decide) ⟨by omega, by omega⟩ ⟨by decide, by decide⟩ (fun c4 => ?_) (fun c4 => ?_)
  · have i3 := hE _ (show 0 ≤ z1 by omega) (by omega)
    refine x_aload_n 1 dX9_verdictOf_16 rfl rfl ?_
    refine x_getr (k := 26) (d := 20) dX9_verdictOf_17 fl9_68 k_468 rfl (fun k5 => ?_)
    have k5 : isK 21 240 488 := k5
    show Ok g mX9_verdictOf (rmd 1) (FQ g (pIP (fun z => z = vz M r ∧ 0 ≤ z ∧ z < 65536) M)) 20 [(2, iv z1), (0, rv g 468), (1, iv r)] [rv g 488] M
    refine x_bipush (6) dX9_verdictOf_20 rfl ?_
    refine x_iload_n 2 dX9_verdictOf_22 rfl rfl ?_
    refine x_imul dX9_verdictOf_23 ?_
    refine x_iload_n 0 dX9_verdictOf_24 rfl rfl ?_
    refine x_iadd dX9_verdictOf_25 ?_
    refine x_cald dX9_verdictOf_26 k5 (by omega) (by omega) (by decide) (fun ⟨a6, a6'⟩ => ?_)
    refine x_iret dX9_verdictOf_27 rfl (iZ_char (by omega) (by omega)) ?_
    refine ⟨_, rfl, rfl, ?_, by omega, by omega⟩
    rw [hvz]
    first | rw [if_pos (by omega)] | rw [if_neg (by omega)]
  · refine x_bipush (97) dX9_verdictOf_11 rfl ?_
    refine x_goto (tgt := 27) dX9_verdictOf_13 (by decide) ?_
    refine x_iret dX9_verdictOf_27 rfl (iZ_char (by omega) (by omega)) ?_
    refine ⟨_, rfl, rfl, ?_, by omega, by omega⟩
    rw [hvz]
    first | rw [if_pos (by omega)] | rw [if_neg (by omega)]

set_option maxHeartbeats 600000 in
set_option maxRecDepth 100000 in
theorem c_X9_step (g : GG) (M : Mem) (l a d : Int) (I : RB M) (hl : 0 ≤ l ∧ l < 65536) (ha : rg a) (hd : rg d) : Ct g yX9_step cX9_step 4 (some .int) 3 [rv g 468, iv l, iv a, iv d] M (pI (fun z M' => (¬ SOK l a d ∧ M' = up M 468 0 1) ∨ ((SOK l a d ∧ M 468 1 = 20) ∧ M' = up M 468 0 2) ∨ ((SOK l a d ∧ M 468 1 < 20 ∧ z = M 468 1 + 1) ∧ M' = up (up (up (up (up M 468 0 0) 469 (M 468 1) l) 470 (M 468 1) a) 471 (M 468 1) d) 468 1 (M 468 1 + 1)))) := by
  refine ct_of (by decide +kernel) (Nat.le_of_ble_eq_true rfl) ?_
  show Ok g mX9_step (rmd 3) (FQ g (pI (fun z M' => (¬ SOK l a d ∧ M' = up M 468 0 1) ∨ ((SOK l a d ∧ M 468 1 = 20) ∧ M' = up M 468 0 2) ∨ ((SOK l a d ∧ M 468 1 < 20 ∧ z = M 468 1 + 1) ∧ M' = up (up (up (up (up M 468 0 0) 469 (M 468 1) l) 470 (M 468 1) a) 471 (M 468 1) d) 468 1 (M 468 1 + 1))))) 0 [(0, rv g 468), (1, iv l), (2, iv a), (3, iv d)] [] M
  have i0 := I.rng
  have hl1 := hl.1
  have hl2 := hl.2
  have ha1 := ha.1
  have ha2 := ha.2
  have hd1 := hd.1
  have hd2 := hd.2
  refine x_aload_n 0 dX9_step_0 rfl rfl ?_
  refine x_iload_n 1 dX9_step_1 rfl rfl ?_
  refine x_iload_n 2 dX9_step_2 rfl rfl ?_
  refine x_iload_n 3 dX9_step_3 rfl rfl ?_
  refine x_callSIP (as := [iv l, iv a, iv d]) (rest := [rv g 468]) dX9_step_4 sl9_107 (c_X9_isStep g M l a d ⟨by omega, by omega⟩ ⟨by omega, by omega⟩ ⟨by omega, by omega⟩) rfl rfl (Nat.le_of_ble_eq_true rfl) ⟨Nat.le_of_ble_eq_true rfl, Nat.le_of_ble_eq_true rfl⟩ (fun z1 h2 => ?_)
  refine x_if_ne (tgt := 14) dX9_step_7 (by decide) ⟨by omega, by omega⟩ (fun c4 => ?_) (fun c4 => ?_)
  · refine x_aload_n 0 dX9_step_14 rfl rfl ?_
    refine x_geti (k := 1) (kI := 1) dX9_step_15 fl9_111 k_468 rfl rfl (fun ⟨a5, a5'⟩ => ?_)
    refine x_bipush (20) dX9_step_18 rfl ?_
    refine x_icmp_ne (tgt := 27) dX9_step_20 (by decide) ⟨by omega, by omega⟩ ⟨by decide, by decide⟩ (fun c6 => ?_) (fun c6 => ?_)
    · refine x_iconst (0) dX9_step_27 rfl ?_
      refine x_callVIP (as := [iv 0]) (rest := []) dX9_step_28 vl9_114 k_468 (c_X9_fails g M 0 (by omega) (by omega)) rfl rfl (Nat.le_of_ble_eq_true rfl) ⟨Nat.le_of_ble_eq_true rfl, Nat.le_of_ble_eq_true rfl⟩ (fun z7 h8 => ?_)
      refine x_if_eq (tgt := 36) dX9_step_31 (by decide) ⟨by omega, by omega⟩ (fun c10 => ?_) (fun c10 => ?_)
      · refine x_aload_n 0 dX9_step_36 rfl rfl ?_
        refine x_getr (k := 2) (d := 1) dX9_step_37 fl9_7 k_468 rfl (fun k11 => ?_)
        have k11 : isK 21 20 469 := k11
        show Ok g mX9_step (rmd 3) (FQ g (pI (fun z M' => (¬ SOK l a d ∧ M' = up M 468 0 1) ∨ ((SOK l a d ∧ M 468 1 = 20) ∧ M' = up M 468 0 2) ∨ ((SOK l a d ∧ M 468 1 < 20 ∧ z = M 468 1 + 1) ∧ M' = up (up (up (up (up M 468 0 0) 469 (M 468 1) l) 470 (M 468 1) a) 471 (M 468 1) d) 468 1 (M 468 1 + 1))))) 40 [(0, rv g 468), (1, iv l), (2, iv a), (3, iv d)] [rv g 469] (up M 468 0 0)
        refine x_aload_n 0 dX9_step_40 rfl rfl ?_
        refine x_geti (k := 1) (kI := 1) dX9_step_41 fl9_111 k_468 rfl rfl (fun ⟨a12, a12'⟩ => ?_)
        have e13 : (up M 468 0 0) 468 1 = M 468 1 := (by simp (disch := omega) only [up_s, up_o, up_k])
        simp only [e13] at a12 a12' ⊢
        refine x_iload_n 1 dX9_step_44 rfl rfl ?_
        refine x_cast dX9_step_45 k11 (by omega) (by omega) (by decide) ⟨by omega, by omega⟩ (by omega) (by omega) ?_
        refine x_aload_n 0 dX9_step_46 rfl rfl ?_
        refine x_getr (k := 3) (d := 2) dX9_step_47 fl9_13 k_468 rfl (fun k14 => ?_)
        have k14 : isK 20 20 470 := k14
        show Ok g mX9_step (rmd 3) (FQ g (pI (fun z M' => (¬ SOK l a d ∧ M' = up M 468 0 1) ∨ ((SOK l a d ∧ M 468 1 = 20) ∧ M' = up M 468 0 2) ∨ ((SOK l a d ∧ M 468 1 < 20 ∧ z = M 468 1 + 1) ∧ M' = up (up (up (up (up M 468 0 0) 469 (M 468 1) l) 470 (M 468 1) a) 471 (M 468 1) d) 468 1 (M 468 1 + 1))))) 50 [(0, rv g 468), (1, iv l), (2, iv a), (3, iv d)] [rv g 470] (up (up M 468 0 0) 469 (M 468 1) l)
        refine x_aload_n 0 dX9_step_50 rfl rfl ?_
        refine x_geti (k := 1) (kI := 1) dX9_step_51 fl9_111 k_468 rfl rfl (fun ⟨a15, a15'⟩ => ?_)
        have e16 : (up (up M 468 0 0) 469 (M 468 1) l) 468 1 = M 468 1 := (by simp (disch := omega) only [up_s, up_o, up_k])
        simp only [e16] at a15 a15' ⊢
        refine x_iload_n 2 dX9_step_54 rfl rfl ?_
        refine x_iast dX9_step_55 k14 (by omega) (by omega) (by decide) ⟨by omega, by omega⟩ ?_
        refine x_aload_n 0 dX9_step_56 rfl rfl ?_
        refine x_getr (k := 4) (d := 3) dX9_step_57 fl9_17 k_468 rfl (fun k17 => ?_)
        have k17 : isK 20 20 471 := k17
        show Ok g mX9_step (rmd 3) (FQ g (pI (fun z M' => (¬ SOK l a d ∧ M' = up M 468 0 1) ∨ ((SOK l a d ∧ M 468 1 = 20) ∧ M' = up M 468 0 2) ∨ ((SOK l a d ∧ M 468 1 < 20 ∧ z = M 468 1 + 1) ∧ M' = up (up (up (up (up M 468 0 0) 469 (M 468 1) l) 470 (M 468 1) a) 471 (M 468 1) d) 468 1 (M 468 1 + 1))))) 60 [(0, rv g 468), (1, iv l), (2, iv a), (3, iv d)] [rv g 471] (up (up (up M 468 0 0) 469 (M 468 1) l) 470 (M 468 1) a)
        refine x_aload_n 0 dX9_step_60 rfl rfl ?_
        refine x_geti (k := 1) (kI := 1) dX9_step_61 fl9_111 k_468 rfl rfl (fun ⟨a18, a18'⟩ => ?_)
        have e19 : (up (up (up M 468 0 0) 469 (M 468 1) l) 470 (M 468 1) a) 468 1 = M 468 1 := (by simp (disch := omega) only [up_s, up_o, up_k])
        simp only [e19] at a18 a18' ⊢
        refine x_iload_n 3 dX9_step_64 rfl rfl ?_
        refine x_iast dX9_step_65 k17 (by omega) (by omega) (by decide) ⟨by omega, by omega⟩ ?_
        refine x_aload_n 0 dX9_step_66 rfl rfl ?_
        refine x_dup dX9_step_67 rfl ?_
        refine x_geti (k := 1) (kI := 1) dX9_step_68 fl9_111 k_468 rfl rfl (fun ⟨a20, a20'⟩ => ?_)
        have e21 : (up (up (up (up M 468 0 0) 469 (M 468 1) l) 470 (M 468 1) a) 471 (M 468 1) d) 468 1 = M 468 1 := (by simp (disch := omega) only [up_s, up_o, up_k])
        simp only [e21] at a20 a20' ⊢
        refine x_iconst (1) dX9_step_71 rfl ?_
        refine x_iadd dX9_step_72 ?_
        refine x_puti (k := 1) (kI := 1) dX9_step_73 fw9_111 k_468 rfl ⟨by omega, by omega⟩ rfl rfl rfl ?_
        refine x_aload_n 0 dX9_step_76 rfl rfl ?_
        refine x_geti (k := 1) (kI := 1) dX9_step_77 fl9_111 k_468 rfl rfl (fun ⟨a22, a22'⟩ => ?_)
        have e23 : (up (up (up (up (up M 468 0 0) 469 (M 468 1) l) 470 (M 468 1) a) 471 (M 468 1) d) 468 1 ((M 468 1) + 1)) 468 1 = (M 468 1) + 1 := (by simp (disch := omega) only [up_s, up_o, up_k])
        simp only [e23] at a22 a22' ⊢
        refine x_iret dX9_step_80 rfl rfl ?_
        exact ⟨_, rfl, Or.inr (Or.inr (⟨⟨by rcases ‹(_ = (1 : Int) ∧ SOK l a d) ∨ _› with ⟨_, e⟩ | ⟨e, _⟩; exact e; omega, by omega, rfl⟩, rfl⟩))⟩
      · refine x_iconst (0) dX9_step_34 rfl ?_
        refine x_iret dX9_step_35 rfl rfl ?_
        exfalso; omega
    · refine x_iconst (2) dX9_step_23 rfl ?_
      refine x_goto (tgt := 28) dX9_step_24 (by decide) ?_
      refine x_callVIP (as := [iv 2]) (rest := []) dX9_step_28 vl9_114 k_468 (c_X9_fails g M 2 (by omega) (by omega)) rfl rfl (Nat.le_of_ble_eq_true rfl) ⟨Nat.le_of_ble_eq_true rfl, Nat.le_of_ble_eq_true rfl⟩ (fun z24 h25 => ?_)
      refine x_if_eq (tgt := 36) dX9_step_31 (by decide) ⟨by omega, by omega⟩ (fun c27 => ?_) (fun c27 => ?_)
      · refine x_aload_n 0 dX9_step_36 rfl rfl ?_
        refine x_getr (k := 2) (d := 1) dX9_step_37 fl9_7 k_468 rfl (fun k28 => ?_)
        have k28 : isK 21 20 469 := k28
        show Ok g mX9_step (rmd 3) (FQ g (pI (fun z M' => (¬ SOK l a d ∧ M' = up M 468 0 1) ∨ ((SOK l a d ∧ M 468 1 = 20) ∧ M' = up M 468 0 2) ∨ ((SOK l a d ∧ M 468 1 < 20 ∧ z = M 468 1 + 1) ∧ M' = up (up (up (up (up M 468 0 0) 469 (M 468 1) l) 470 (M 468 1) a) 471 (M 468 1) d) 468 1 (M 468 1 + 1))))) 40 [(0, rv g 468), (1, iv l), (2, iv a), (3, iv d)] [rv g 469] (up M 468 0 2)
        refine x_aload_n 0 dX9_step_40 rfl rfl ?_
        refine x_geti (k := 1) (kI := 1) dX9_step_41 fl9_111 k_468 rfl rfl (fun ⟨a29, a29'⟩ => ?_)
        have e30 : (up M 468 0 2) 468 1 = M 468 1 := (by simp (disch := omega) only [up_s, up_o, up_k])
        simp only [e30] at a29 a29' ⊢
        refine x_iload_n 1 dX9_step_44 rfl rfl ?_
        refine x_cast dX9_step_45 k28 (by omega) (by omega) (by decide) ⟨by omega, by omega⟩ (by omega) (by omega) ?_
        refine x_aload_n 0 dX9_step_46 rfl rfl ?_
        refine x_getr (k := 3) (d := 2) dX9_step_47 fl9_13 k_468 rfl (fun k31 => ?_)
        have k31 : isK 20 20 470 := k31
        show Ok g mX9_step (rmd 3) (FQ g (pI (fun z M' => (¬ SOK l a d ∧ M' = up M 468 0 1) ∨ ((SOK l a d ∧ M 468 1 = 20) ∧ M' = up M 468 0 2) ∨ ((SOK l a d ∧ M 468 1 < 20 ∧ z = M 468 1 + 1) ∧ M' = up (up (up (up (up M 468 0 0) 469 (M 468 1) l) 470 (M 468 1) a) 471 (M 468 1) d) 468 1 (M 468 1 + 1))))) 50 [(0, rv g 468), (1, iv l), (2, iv a), (3, iv d)] [rv g 470] (up (up M 468 0 2) 469 (M 468 1) l)
        refine x_aload_n 0 dX9_step_50 rfl rfl ?_
        refine x_geti (k := 1) (kI := 1) dX9_step_51 fl9_111 k_468 rfl rfl (fun ⟨a32, a32'⟩ => ?_)
        have e33 : (up (up M 468 0 2) 469 (M 468 1) l) 468 1 = M 468 1 := (by simp (disch := omega) only [up_s, up_o, up_k])
        simp only [e33] at a32 a32' ⊢
        refine x_iload_n 2 dX9_step_54 rfl rfl ?_
        refine x_iast dX9_step_55 k31 (by omega) (by omega) (by decide) ⟨by omega, by omega⟩ ?_
        refine x_aload_n 0 dX9_step_56 rfl rfl ?_
        refine x_getr (k := 4) (d := 3) dX9_step_57 fl9_17 k_468 rfl (fun k34 => ?_)
        have k34 : isK 20 20 471 := k34
        show Ok g mX9_step (rmd 3) (FQ g (pI (fun z M' => (¬ SOK l a d ∧ M' = up M 468 0 1) ∨ ((SOK l a d ∧ M 468 1 = 20) ∧ M' = up M 468 0 2) ∨ ((SOK l a d ∧ M 468 1 < 20 ∧ z = M 468 1 + 1) ∧ M' = up (up (up (up (up M 468 0 0) 469 (M 468 1) l) 470 (M 468 1) a) 471 (M 468 1) d) 468 1 (M 468 1 + 1))))) 60 [(0, rv g 468), (1, iv l), (2, iv a), (3, iv d)] [rv g 471] (up (up (up M 468 0 2) 469 (M 468 1) l) 470 (M 468 1) a)
        refine x_aload_n 0 dX9_step_60 rfl rfl ?_
        refine x_geti (k := 1) (kI := 1) dX9_step_61 fl9_111 k_468 rfl rfl (fun ⟨a35, a35'⟩ => ?_)
        have e36 : (up (up (up M 468 0 2) 469 (M 468 1) l) 470 (M 468 1) a) 468 1 = M 468 1 := (by simp (disch := omega) only [up_s, up_o, up_k])
        simp only [e36] at a35 a35' ⊢
        refine x_iload_n 3 dX9_step_64 rfl rfl ?_
        refine x_iast dX9_step_65 k34 (by omega) (by omega) (by decide) ⟨by omega, by omega⟩ ?_
        refine x_aload_n 0 dX9_step_66 rfl rfl ?_
        refine x_dup dX9_step_67 rfl ?_
        refine x_geti (k := 1) (kI := 1) dX9_step_68 fl9_111 k_468 rfl rfl (fun ⟨a37, a37'⟩ => ?_)
        have e38 : (up (up (up (up M 468 0 2) 469 (M 468 1) l) 470 (M 468 1) a) 471 (M 468 1) d) 468 1 = M 468 1 := (by simp (disch := omega) only [up_s, up_o, up_k])
        simp only [e38] at a37 a37' ⊢
        refine x_iconst (1) dX9_step_71 rfl ?_
        refine x_iadd dX9_step_72 ?_
        refine x_puti (k := 1) (kI := 1) dX9_step_73 fw9_111 k_468 rfl ⟨by omega, by omega⟩ rfl rfl rfl ?_
        refine x_aload_n 0 dX9_step_76 rfl rfl ?_
        refine x_geti (k := 1) (kI := 1) dX9_step_77 fl9_111 k_468 rfl rfl (fun ⟨a39, a39'⟩ => ?_)
        have e40 : (up (up (up (up (up M 468 0 2) 469 (M 468 1) l) 470 (M 468 1) a) 471 (M 468 1) d) 468 1 ((M 468 1) + 1)) 468 1 = (M 468 1) + 1 := (by simp (disch := omega) only [up_s, up_o, up_k])
        simp only [e40] at a39 a39' ⊢
        refine x_iret dX9_step_80 rfl rfl ?_
        exfalso; omega
      · refine x_iconst (0) dX9_step_34 rfl ?_
        refine x_iret dX9_step_35 rfl rfl ?_
        exact ⟨_, rfl, Or.inr (Or.inl ⟨⟨by rcases ‹(_ = (1 : Int) ∧ SOK l a d) ∨ _› with ⟨_, e⟩ | ⟨e, _⟩; exact e; omega, by omega⟩, rfl⟩)⟩
  · refine x_iconst (1) dX9_step_10 rfl ?_
    refine x_goto (tgt := 28) dX9_step_11 (by decide) ?_
    refine x_callVIP (as := [iv 1]) (rest := []) dX9_step_28 vl9_114 k_468 (c_X9_fails g M 1 (by omega) (by omega)) rfl rfl (Nat.le_of_ble_eq_true rfl) ⟨Nat.le_of_ble_eq_true rfl, Nat.le_of_ble_eq_true rfl⟩ (fun z41 h42 => ?_)
    refine x_if_eq (tgt := 36) dX9_step_31 (by decide) ⟨by omega, by omega⟩ (fun c44 => ?_) (fun c44 => ?_)
    · refine x_aload_n 0 dX9_step_36 rfl rfl ?_
      refine x_getr (k := 2) (d := 1) dX9_step_37 fl9_7 k_468 rfl (fun k45 => ?_)
      have k45 : isK 21 20 469 := k45
      show Ok g mX9_step (rmd 3) (FQ g (pI (fun z M' => (¬ SOK l a d ∧ M' = up M 468 0 1) ∨ ((SOK l a d ∧ M 468 1 = 20) ∧ M' = up M 468 0 2) ∨ ((SOK l a d ∧ M 468 1 < 20 ∧ z = M 468 1 + 1) ∧ M' = up (up (up (up (up M 468 0 0) 469 (M 468 1) l) 470 (M 468 1) a) 471 (M 468 1) d) 468 1 (M 468 1 + 1))))) 40 [(0, rv g 468), (1, iv l), (2, iv a), (3, iv d)] [rv g 469] (up M 468 0 1)
      refine x_aload_n 0 dX9_step_40 rfl rfl ?_
      refine x_geti (k := 1) (kI := 1) dX9_step_41 fl9_111 k_468 rfl rfl (fun ⟨a46, a46'⟩ => ?_)
      have e47 : (up M 468 0 1) 468 1 = M 468 1 := (by simp (disch := omega) only [up_s, up_o, up_k])
      simp only [e47] at a46 a46' ⊢
      refine x_iload_n 1 dX9_step_44 rfl rfl ?_
      refine x_cast dX9_step_45 k45 (by omega) (by omega) (by decide) ⟨by omega, by omega⟩ (by omega) (by omega) ?_
      refine x_aload_n 0 dX9_step_46 rfl rfl ?_
      refine x_getr (k := 3) (d := 2) dX9_step_47 fl9_13 k_468 rfl (fun k48 => ?_)
      have k48 : isK 20 20 470 := k48
      show Ok g mX9_step (rmd 3) (FQ g (pI (fun z M' => (¬ SOK l a d ∧ M' = up M 468 0 1) ∨ ((SOK l a d ∧ M 468 1 = 20) ∧ M' = up M 468 0 2) ∨ ((SOK l a d ∧ M 468 1 < 20 ∧ z = M 468 1 + 1) ∧ M' = up (up (up (up (up M 468 0 0) 469 (M 468 1) l) 470 (M 468 1) a) 471 (M 468 1) d) 468 1 (M 468 1 + 1))))) 50 [(0, rv g 468), (1, iv l), (2, iv a), (3, iv d)] [rv g 470] (up (up M 468 0 1) 469 (M 468 1) l)
      refine x_aload_n 0 dX9_step_50 rfl rfl ?_
      refine x_geti (k := 1) (kI := 1) dX9_step_51 fl9_111 k_468 rfl rfl (fun ⟨a49, a49'⟩ => ?_)
      have e50 : (up (up M 468 0 1) 469 (M 468 1) l) 468 1 = M 468 1 := (by simp (disch := omega) only [up_s, up_o, up_k])
      simp only [e50] at a49 a49' ⊢
      refine x_iload_n 2 dX9_step_54 rfl rfl ?_
      refine x_iast dX9_step_55 k48 (by omega) (by omega) (by decide) ⟨by omega, by omega⟩ ?_
      refine x_aload_n 0 dX9_step_56 rfl rfl ?_
      refine x_getr (k := 4) (d := 3) dX9_step_57 fl9_17 k_468 rfl (fun k51 => ?_)
      have k51 : isK 20 20 471 := k51
      show Ok g mX9_step (rmd 3) (FQ g (pI (fun z M' => (¬ SOK l a d ∧ M' = up M 468 0 1) ∨ ((SOK l a d ∧ M 468 1 = 20) ∧ M' = up M 468 0 2) ∨ ((SOK l a d ∧ M 468 1 < 20 ∧ z = M 468 1 + 1) ∧ M' = up (up (up (up (up M 468 0 0) 469 (M 468 1) l) 470 (M 468 1) a) 471 (M 468 1) d) 468 1 (M 468 1 + 1))))) 60 [(0, rv g 468), (1, iv l), (2, iv a), (3, iv d)] [rv g 471] (up (up (up M 468 0 1) 469 (M 468 1) l) 470 (M 468 1) a)
      refine x_aload_n 0 dX9_step_60 rfl rfl ?_
      refine x_geti (k := 1) (kI := 1) dX9_step_61 fl9_111 k_468 rfl rfl (fun ⟨a52, a52'⟩ => ?_)
      have e53 : (up (up (up M 468 0 1) 469 (M 468 1) l) 470 (M 468 1) a) 468 1 = M 468 1 := (by simp (disch := omega) only [up_s, up_o, up_k])
      simp only [e53] at a52 a52' ⊢
      refine x_iload_n 3 dX9_step_64 rfl rfl ?_
      refine x_iast dX9_step_65 k51 (by omega) (by omega) (by decide) ⟨by omega, by omega⟩ ?_
      refine x_aload_n 0 dX9_step_66 rfl rfl ?_
      refine x_dup dX9_step_67 rfl ?_
      refine x_geti (k := 1) (kI := 1) dX9_step_68 fl9_111 k_468 rfl rfl (fun ⟨a54, a54'⟩ => ?_)
      have e55 : (up (up (up (up M 468 0 1) 469 (M 468 1) l) 470 (M 468 1) a) 471 (M 468 1) d) 468 1 = M 468 1 := (by simp (disch := omega) only [up_s, up_o, up_k])
      simp only [e55] at a54 a54' ⊢
      refine x_iconst (1) dX9_step_71 rfl ?_
      refine x_iadd dX9_step_72 ?_
      refine x_puti (k := 1) (kI := 1) dX9_step_73 fw9_111 k_468 rfl ⟨by omega, by omega⟩ rfl rfl rfl ?_
      refine x_aload_n 0 dX9_step_76 rfl rfl ?_
      refine x_geti (k := 1) (kI := 1) dX9_step_77 fl9_111 k_468 rfl rfl (fun ⟨a56, a56'⟩ => ?_)
      have e57 : (up (up (up (up (up M 468 0 1) 469 (M 468 1) l) 470 (M 468 1) a) 471 (M 468 1) d) 468 1 ((M 468 1) + 1)) 468 1 = (M 468 1) + 1 := (by simp (disch := omega) only [up_s, up_o, up_k])
      simp only [e57] at a56 a56' ⊢
      refine x_iret dX9_step_80 rfl rfl ?_
      exfalso; omega
    · refine x_iconst (0) dX9_step_34 rfl ?_
      refine x_iret dX9_step_35 rfl rfl ?_
      exact ⟨_, rfl, Or.inl ⟨by rcases ‹(_ = (1 : Int) ∧ SOK l a d) ∨ _› with ⟨e, _⟩ | ⟨_, e⟩; omega; exact e, rfl⟩⟩

set_option maxHeartbeats 600000 in
set_option maxRecDepth 100000 in
theorem c_X9_number (g : GG) (M : Mem) (v b : Int) (I : RB M) (hv : rg v) (b0 : b = 0 ∨ b = 1) : Ct g yX9_number cX9_number 3 (some .int) 3 [rv g 468, iv v, iv b] M (pI (fun z M' => ((v < -999 ∨ 999 < v) ∧ M' = up M 468 0 1) ∨ (((-999 ≤ v ∧ v ≤ 999) ∧ ((b = 1 ∧ M 468 6 = 6) ∨ (b = 0 ∧ M 468 5 = 4))) ∧ M' = up M 468 0 2) ∨ ((-999 ≤ v ∧ v ≤ 999) ∧ ((b = 1 ∧ M 468 6 < 6 ∧ z = M 468 6 + 1 ∧ M' = up (up (up M 468 0 0) 473 (M 468 6) v) 468 6 (M 468 6 + 1)) ∨ (b = 0 ∧ M 468 5 < 4 ∧ z = M 468 5 + 1 ∧ M' = up (up (up M 468 0 0) 472 (M 468 5) v) 468 5 (M 468 5 + 1)))))) := by
  refine ct_of (by decide +kernel) (Nat.le_of_ble_eq_true rfl) ?_
  show Ok g mX9_number (rmd 3) (FQ g (pI (fun z M' => ((v < -999 ∨ 999 < v) ∧ M' = up M 468 0 1) ∨ (((-999 ≤ v ∧ v ≤ 999) ∧ ((b = 1 ∧ M 468 6 = 6) ∨ (b = 0 ∧ M 468 5 = 4))) ∧ M' = up M 468 0 2) ∨ ((-999 ≤ v ∧ v ≤ 999) ∧ ((b = 1 ∧ M 468 6 < 6 ∧ z = M 468 6 + 1 ∧ M' = up (up (up M 468 0 0) 473 (M 468 6) v) 468 6 (M 468 6 + 1)) ∨ (b = 0 ∧ M 468 5 < 4 ∧ z = M 468 5 + 1 ∧ M' = up (up (up M 468 0 0) 472 (M 468 5) v) 468 5 (M 468 5 + 1))))))) 0 [(0, rv g 468), (1, iv v), (2, iv b)] [] M
  have i0 := I.rng
  have hv1 := hv.1
  have hv2 := hv.2
  refine x_aload_n 0 dX9_number_0 rfl rfl ?_
  refine x_iload_n 1 dX9_number_1 rfl rfl ?_
  refine x_sipush (-999) dX9_number_2 rfl ?_
  refine x_sipush (999) dX9_number_5 rfl ?_
  refine x_callSIP (as := [iv v, iv ((-999)), iv 999]) (rest := [rv g 468]) dX9_number_8 sl9_103 (c_X9_in g M v ((-999)) 999 ⟨by omega, by omega⟩ ⟨by omega, by omega⟩ ⟨by omega, by omega⟩) rfl rfl (Nat.le_of_ble_eq_true rfl) ⟨Nat.le_of_ble_eq_true rfl, Nat.le_of_ble_eq_true rfl⟩ (fun z1 h2 => ?_)
  refine x_if_ne (tgt := 18) dX9_number_11 (by decide) ⟨by omega, by omega⟩ (fun c4 => ?_) (fun c4 => ?_)
  · refine x_iload_n 2 dX9_number_18 rfl rfl ?_
    refine x_if_eq (tgt := 31) dX9_number_19 (by decide) ⟨by omega, by omega⟩ (fun c5 => ?_) (fun c5 => ?_)
    · refine x_iload_n 2 dX9_number_31 rfl rfl ?_
      refine x_if_ne (tgt := 47) dX9_number_32 (by decide) ⟨by omega, by omega⟩ (fun c6 => ?_) (fun c6 => ?_)
      · refine x_iconst (0) dX9_number_47 rfl ?_
        refine x_callVIP (as := [iv 0]) (rest := []) dX9_number_48 vl9_114 k_468 (c_X9_fails g M 0 (by omega) (by omega)) rfl rfl (Nat.le_of_ble_eq_true rfl) ⟨Nat.le_of_ble_eq_true rfl, Nat.le_of_ble_eq_true rfl⟩ (fun z7 h8 => ?_)
        refine x_if_eq (tgt := 56) dX9_number_51 (by decide) ⟨by omega, by omega⟩ (fun c10 => ?_) (fun c10 => ?_)
        · refine x_iload_n 2 dX9_number_56 rfl rfl ?_
          refine x_if_eq (tgt := 85) dX9_number_57 (by decide) ⟨by omega, by omega⟩ (fun c11 => ?_) (fun c11 => ?_)
          · refine x_aload_n 0 dX9_number_85 rfl rfl ?_
            refine x_getr (k := 7) (d := 4) dX9_number_86 fl9_20 k_468 rfl (fun k12 => ?_)
            have k12 : isK 20 4 472 := k12
            show Ok g mX9_number (rmd 3) (FQ g (pI (fun z M' => ((v < -999 ∨ 999 < v) ∧ M' = up M 468 0 1) ∨ (((-999 ≤ v ∧ v ≤ 999) ∧ ((b = 1 ∧ M 468 6 = 6) ∨ (b = 0 ∧ M 468 5 = 4))) ∧ M' = up M 468 0 2) ∨ ((-999 ≤ v ∧ v ≤ 999) ∧ ((b = 1 ∧ M 468 6 < 6 ∧ z = M 468 6 + 1 ∧ M' = up (up (up M 468 0 0) 473 (M 468 6) v) 468 6 (M 468 6 + 1)) ∨ (b = 0 ∧ M 468 5 < 4 ∧ z = M 468 5 + 1 ∧ M' = up (up (up M 468 0 0) 472 (M 468 5) v) 468 5 (M 468 5 + 1))))))) 89 [(0, rv g 468), (1, iv v), (2, iv b)] [rv g 472] (up M 468 0 0)
            refine x_aload_n 0 dX9_number_89 rfl rfl ?_
            refine x_geti (k := 5) (kI := 5) dX9_number_90 fl9_121 k_468 rfl rfl (fun ⟨a13, a13'⟩ => ?_)
            have e14 : (up M 468 0 0) 468 5 = M 468 5 := (by simp (disch := omega) only [up_s, up_o, up_k])
            simp only [e14] at a13 a13' ⊢
            refine x_iload_n 1 dX9_number_93 rfl rfl ?_
            refine x_iast dX9_number_94 k12 (by omega) (by omega) (by decide) ⟨by omega, by omega⟩ ?_
            refine x_aload_n 0 dX9_number_95 rfl rfl ?_
            refine x_dup dX9_number_96 rfl ?_
            refine x_geti (k := 5) (kI := 5) dX9_number_97 fl9_121 k_468 rfl rfl (fun ⟨a15, a15'⟩ => ?_)
            have e16 : (up (up M 468 0 0) 472 (M 468 5) v) 468 5 = M 468 5 := (by simp (disch := omega) only [up_s, up_o, up_k])
            simp only [e16] at a15 a15' ⊢
            refine x_iconst (1) dX9_number_100 rfl ?_
            refine x_iadd dX9_number_101 ?_
            refine x_puti (k := 5) (kI := 5) dX9_number_102 fw9_121 k_468 rfl ⟨by omega, by omega⟩ rfl rfl rfl ?_
            refine x_aload_n 0 dX9_number_105 rfl rfl ?_
            refine x_geti (k := 5) (kI := 5) dX9_number_106 fl9_121 k_468 rfl rfl (fun ⟨a17, a17'⟩ => ?_)
            have e18 : (up (up (up M 468 0 0) 472 (M 468 5) v) 468 5 ((M 468 5) + 1)) 468 5 = (M 468 5) + 1 := (by simp (disch := omega) only [up_s, up_o, up_k])
            simp only [e18] at a17 a17' ⊢
            refine x_iret dX9_number_109 rfl rfl ?_
            exact ⟨_, rfl, Or.inr (Or.inr (⟨by omega, Or.inr ⟨by omega, by omega, rfl, rfl⟩⟩))⟩
          · refine x_aload_n 0 dX9_number_60 rfl rfl ?_
            refine x_getr (k := 8) (d := 5) dX9_number_61 fl9_23 k_468 rfl (fun k19 => ?_)
            have k19 : isK 20 6 473 := k19
            show Ok g mX9_number (rmd 3) (FQ g (pI (fun z M' => ((v < -999 ∨ 999 < v) ∧ M' = up M 468 0 1) ∨ (((-999 ≤ v ∧ v ≤ 999) ∧ ((b = 1 ∧ M 468 6 = 6) ∨ (b = 0 ∧ M 468 5 = 4))) ∧ M' = up M 468 0 2) ∨ ((-999 ≤ v ∧ v ≤ 999) ∧ ((b = 1 ∧ M 468 6 < 6 ∧ z = M 468 6 + 1 ∧ M' = up (up (up M 468 0 0) 473 (M 468 6) v) 468 6 (M 468 6 + 1)) ∨ (b = 0 ∧ M 468 5 < 4 ∧ z = M 468 5 + 1 ∧ M' = up (up (up M 468 0 0) 472 (M 468 5) v) 468 5 (M 468 5 + 1))))))) 64 [(0, rv g 468), (1, iv v), (2, iv b)] [rv g 473] (up M 468 0 0)
            refine x_aload_n 0 dX9_number_64 rfl rfl ?_
            refine x_geti (k := 6) (kI := 6) dX9_number_65 fl9_118 k_468 rfl rfl (fun ⟨a20, a20'⟩ => ?_)
            have e21 : (up M 468 0 0) 468 6 = M 468 6 := (by simp (disch := omega) only [up_s, up_o, up_k])
            simp only [e21] at a20 a20' ⊢
            refine x_iload_n 1 dX9_number_68 rfl rfl ?_
            refine x_iast dX9_number_69 k19 (by omega) (by omega) (by decide) ⟨by omega, by omega⟩ ?_
            refine x_aload_n 0 dX9_number_70 rfl rfl ?_
            refine x_dup dX9_number_71 rfl ?_
            refine x_geti (k := 6) (kI := 6) dX9_number_72 fl9_118 k_468 rfl rfl (fun ⟨a22, a22'⟩ => ?_)
            have e23 : (up (up M 468 0 0) 473 (M 468 6) v) 468 6 = M 468 6 := (by simp (disch := omega) only [up_s, up_o, up_k])
            simp only [e23] at a22 a22' ⊢
            refine x_iconst (1) dX9_number_75 rfl ?_
            refine x_iadd dX9_number_76 ?_
            refine x_puti (k := 6) (kI := 6) dX9_number_77 fw9_118 k_468 rfl ⟨by omega, by omega⟩ rfl rfl rfl ?_
            refine x_aload_n 0 dX9_number_80 rfl rfl ?_
            refine x_geti (k := 6) (kI := 6) dX9_number_81 fl9_118 k_468 rfl rfl (fun ⟨a24, a24'⟩ => ?_)
            have e25 : (up (up (up M 468 0 0) 473 (M 468 6) v) 468 6 ((M 468 6) + 1)) 468 6 = (M 468 6) + 1 := (by simp (disch := omega) only [up_s, up_o, up_k])
            simp only [e25] at a24 a24' ⊢
            refine x_iret dX9_number_84 rfl rfl ?_
            exact ⟨_, rfl, Or.inr (Or.inr (⟨by omega, Or.inl ⟨by omega, by omega, rfl, rfl⟩⟩))⟩
        · refine x_iconst (0) dX9_number_54 rfl ?_
          refine x_iret dX9_number_55 rfl rfl ?_
          exfalso; omega
      · refine x_aload_n 0 dX9_number_35 rfl rfl ?_
        refine x_geti (k := 5) (kI := 5) dX9_number_36 fl9_121 k_468 rfl rfl (fun ⟨a26, a26'⟩ => ?_)
        refine x_iconst (4) dX9_number_39 rfl ?_
        refine x_icmp_ne (tgt := 47) dX9_number_40 (by decide) ⟨by omega, by omega⟩ ⟨by decide, by decide⟩ (fun c27 => ?_) (fun c27 => ?_)
        · refine x_iconst (0) dX9_number_47 rfl ?_
          refine x_callVIP (as := [iv 0]) (rest := []) dX9_number_48 vl9_114 k_468 (c_X9_fails g M 0 (by omega) (by omega)) rfl rfl (Nat.le_of_ble_eq_true rfl) ⟨Nat.le_of_ble_eq_true rfl, Nat.le_of_ble_eq_true rfl⟩ (fun z28 h29 => ?_)
          refine x_if_eq (tgt := 56) dX9_number_51 (by decide) ⟨by omega, by omega⟩ (fun c31 => ?_) (fun c31 => ?_)
          · refine x_iload_n 2 dX9_number_56 rfl rfl ?_
            refine x_if_eq (tgt := 85) dX9_number_57 (by decide) ⟨by omega, by omega⟩ (fun c32 => ?_) (fun c32 => ?_)
            · refine x_aload_n 0 dX9_number_85 rfl rfl ?_
              refine x_getr (k := 7) (d := 4) dX9_number_86 fl9_20 k_468 rfl (fun k33 => ?_)
              have k33 : isK 20 4 472 := k33
              show Ok g mX9_number (rmd 3) (FQ g (pI (fun z M' => ((v < -999 ∨ 999 < v) ∧ M' = up M 468 0 1) ∨ (((-999 ≤ v ∧ v ≤ 999) ∧ ((b = 1 ∧ M 468 6 = 6) ∨ (b = 0 ∧ M 468 5 = 4))) ∧ M' = up M 468 0 2) ∨ ((-999 ≤ v ∧ v ≤ 999) ∧ ((b = 1 ∧ M 468 6 < 6 ∧ z = M 468 6 + 1 ∧ M' = up (up (up M 468 0 0) 473 (M 468 6) v) 468 6 (M 468 6 + 1)) ∨ (b = 0 ∧ M 468 5 < 4 ∧ z = M 468 5 + 1 ∧ M' = up (up (up M 468 0 0) 472 (M 468 5) v) 468 5 (M 468 5 + 1))))))) 89 [(0, rv g 468), (1, iv v), (2, iv b)] [rv g 472] (up M 468 0 0)
              refine x_aload_n 0 dX9_number_89 rfl rfl ?_
              refine x_geti (k := 5) (kI := 5) dX9_number_90 fl9_121 k_468 rfl rfl (fun ⟨a34, a34'⟩ => ?_)
              have e35 : (up M 468 0 0) 468 5 = M 468 5 := (by simp (disch := omega) only [up_s, up_o, up_k])
              simp only [e35] at a34 a34' ⊢
              refine x_iload_n 1 dX9_number_93 rfl rfl ?_
              refine x_iast dX9_number_94 k33 (by omega) (by omega) (by decide) ⟨by omega, by omega⟩ ?_
              refine x_aload_n 0 dX9_number_95 rfl rfl ?_
              refine x_dup dX9_number_96 rfl ?_
              refine x_geti (k := 5) (kI := 5) dX9_number_97 fl9_121 k_468 rfl rfl (fun ⟨a36, a36'⟩ => ?_)
              have e37 : (up (up M 468 0 0) 472 (M 468 5) v) 468 5 = M 468 5 := (by simp (disch := omega) only [up_s, up_o, up_k])
              simp only [e37] at a36 a36' ⊢
              refine x_iconst (1) dX9_number_100 rfl ?_
              refine x_iadd dX9_number_101 ?_
              refine x_puti (k := 5) (kI := 5) dX9_number_102 fw9_121 k_468 rfl ⟨by omega, by omega⟩ rfl rfl rfl ?_
              refine x_aload_n 0 dX9_number_105 rfl rfl ?_
              refine x_geti (k := 5) (kI := 5) dX9_number_106 fl9_121 k_468 rfl rfl (fun ⟨a38, a38'⟩ => ?_)
              have e39 : (up (up (up M 468 0 0) 472 (M 468 5) v) 468 5 ((M 468 5) + 1)) 468 5 = (M 468 5) + 1 := (by simp (disch := omega) only [up_s, up_o, up_k])
              simp only [e39] at a38 a38' ⊢
              refine x_iret dX9_number_109 rfl rfl ?_
              exact ⟨_, rfl, Or.inr (Or.inr (⟨by omega, Or.inr ⟨by omega, by omega, rfl, rfl⟩⟩))⟩
            · refine x_aload_n 0 dX9_number_60 rfl rfl ?_
              refine x_getr (k := 8) (d := 5) dX9_number_61 fl9_23 k_468 rfl (fun k40 => ?_)
              have k40 : isK 20 6 473 := k40
              show Ok g mX9_number (rmd 3) (FQ g (pI (fun z M' => ((v < -999 ∨ 999 < v) ∧ M' = up M 468 0 1) ∨ (((-999 ≤ v ∧ v ≤ 999) ∧ ((b = 1 ∧ M 468 6 = 6) ∨ (b = 0 ∧ M 468 5 = 4))) ∧ M' = up M 468 0 2) ∨ ((-999 ≤ v ∧ v ≤ 999) ∧ ((b = 1 ∧ M 468 6 < 6 ∧ z = M 468 6 + 1 ∧ M' = up (up (up M 468 0 0) 473 (M 468 6) v) 468 6 (M 468 6 + 1)) ∨ (b = 0 ∧ M 468 5 < 4 ∧ z = M 468 5 + 1 ∧ M' = up (up (up M 468 0 0) 472 (M 468 5) v) 468 5 (M 468 5 + 1))))))) 64 [(0, rv g 468), (1, iv v), (2, iv b)] [rv g 473] (up M 468 0 0)
              refine x_aload_n 0 dX9_number_64 rfl rfl ?_
              refine x_geti (k := 6) (kI := 6) dX9_number_65 fl9_118 k_468 rfl rfl (fun ⟨a41, a41'⟩ => ?_)
              have e42 : (up M 468 0 0) 468 6 = M 468 6 := (by simp (disch := omega) only [up_s, up_o, up_k])
              simp only [e42] at a41 a41' ⊢
              refine x_iload_n 1 dX9_number_68 rfl rfl ?_
              refine x_iast dX9_number_69 k40 (by omega) (by omega) (by decide) ⟨by omega, by omega⟩ ?_
              refine x_aload_n 0 dX9_number_70 rfl rfl ?_
              refine x_dup dX9_number_71 rfl ?_
              refine x_geti (k := 6) (kI := 6) dX9_number_72 fl9_118 k_468 rfl rfl (fun ⟨a43, a43'⟩ => ?_)
              have e44 : (up (up M 468 0 0) 473 (M 468 6) v) 468 6 = M 468 6 := (by simp (disch := omega) only [up_s, up_o, up_k])
              simp only [e44] at a43 a43' ⊢
              refine x_iconst (1) dX9_number_75 rfl ?_
              refine x_iadd dX9_number_76 ?_
              refine x_puti (k := 6) (kI := 6) dX9_number_77 fw9_118 k_468 rfl ⟨by omega, by omega⟩ rfl rfl rfl ?_
              refine x_aload_n 0 dX9_number_80 rfl rfl ?_
              refine x_geti (k := 6) (kI := 6) dX9_number_81 fl9_118 k_468 rfl rfl (fun ⟨a45, a45'⟩ => ?_)
              have e46 : (up (up (up M 468 0 0) 473 (M 468 6) v) 468 6 ((M 468 6) + 1)) 468 6 = (M 468 6) + 1 := (by simp (disch := omega) only [up_s, up_o, up_k])
              simp only [e46] at a45 a45' ⊢
              refine x_iret dX9_number_84 rfl rfl ?_
              exact ⟨_, rfl, Or.inr (Or.inr (⟨by omega, Or.inl ⟨by omega, by omega, rfl, rfl⟩⟩))⟩
          · refine x_iconst (0) dX9_number_54 rfl ?_
            refine x_iret dX9_number_55 rfl rfl ?_
            exfalso; omega
        · refine x_iconst (2) dX9_number_43 rfl ?_
          refine x_goto (tgt := 48) dX9_number_44 (by decide) ?_
          refine x_callVIP (as := [iv 2]) (rest := []) dX9_number_48 vl9_114 k_468 (c_X9_fails g M 2 (by omega) (by omega)) rfl rfl (Nat.le_of_ble_eq_true rfl) ⟨Nat.le_of_ble_eq_true rfl, Nat.le_of_ble_eq_true rfl⟩ (fun z47 h48 => ?_)
          refine x_if_eq (tgt := 56) dX9_number_51 (by decide) ⟨by omega, by omega⟩ (fun c50 => ?_) (fun c50 => ?_)
          · refine x_iload_n 2 dX9_number_56 rfl rfl ?_
            refine x_if_eq (tgt := 85) dX9_number_57 (by decide) ⟨by omega, by omega⟩ (fun c51 => ?_) (fun c51 => ?_)
            · refine x_aload_n 0 dX9_number_85 rfl rfl ?_
              refine x_getr (k := 7) (d := 4) dX9_number_86 fl9_20 k_468 rfl (fun k52 => ?_)
              have k52 : isK 20 4 472 := k52
              show Ok g mX9_number (rmd 3) (FQ g (pI (fun z M' => ((v < -999 ∨ 999 < v) ∧ M' = up M 468 0 1) ∨ (((-999 ≤ v ∧ v ≤ 999) ∧ ((b = 1 ∧ M 468 6 = 6) ∨ (b = 0 ∧ M 468 5 = 4))) ∧ M' = up M 468 0 2) ∨ ((-999 ≤ v ∧ v ≤ 999) ∧ ((b = 1 ∧ M 468 6 < 6 ∧ z = M 468 6 + 1 ∧ M' = up (up (up M 468 0 0) 473 (M 468 6) v) 468 6 (M 468 6 + 1)) ∨ (b = 0 ∧ M 468 5 < 4 ∧ z = M 468 5 + 1 ∧ M' = up (up (up M 468 0 0) 472 (M 468 5) v) 468 5 (M 468 5 + 1))))))) 89 [(0, rv g 468), (1, iv v), (2, iv b)] [rv g 472] (up M 468 0 2)
              refine x_aload_n 0 dX9_number_89 rfl rfl ?_
              refine x_geti (k := 5) (kI := 5) dX9_number_90 fl9_121 k_468 rfl rfl (fun ⟨a53, a53'⟩ => ?_)
              have e54 : (up M 468 0 2) 468 5 = M 468 5 := (by simp (disch := omega) only [up_s, up_o, up_k])
              simp only [e54] at a53 a53' ⊢
              refine x_iload_n 1 dX9_number_93 rfl rfl ?_
              refine x_iast dX9_number_94 k52 (by omega) (by omega) (by decide) ⟨by omega, by omega⟩ ?_
              refine x_aload_n 0 dX9_number_95 rfl rfl ?_
              refine x_dup dX9_number_96 rfl ?_
              refine x_geti (k := 5) (kI := 5) dX9_number_97 fl9_121 k_468 rfl rfl (fun ⟨a55, a55'⟩ => ?_)
              have e56 : (up (up M 468 0 2) 472 (M 468 5) v) 468 5 = M 468 5 := (by simp (disch := omega) only [up_s, up_o, up_k])
              simp only [e56] at a55 a55' ⊢
              refine x_iconst (1) dX9_number_100 rfl ?_
              refine x_iadd dX9_number_101 ?_
              refine x_puti (k := 5) (kI := 5) dX9_number_102 fw9_121 k_468 rfl ⟨by omega, by omega⟩ rfl rfl rfl ?_
              refine x_aload_n 0 dX9_number_105 rfl rfl ?_
              refine x_geti (k := 5) (kI := 5) dX9_number_106 fl9_121 k_468 rfl rfl (fun ⟨a57, a57'⟩ => ?_)
              have e58 : (up (up (up M 468 0 2) 472 (M 468 5) v) 468 5 ((M 468 5) + 1)) 468 5 = (M 468 5) + 1 := (by simp (disch := omega) only [up_s, up_o, up_k])
              simp only [e58] at a57 a57' ⊢
              refine x_iret dX9_number_109 rfl rfl ?_
              exfalso; omega
            · refine x_aload_n 0 dX9_number_60 rfl rfl ?_
              refine x_getr (k := 8) (d := 5) dX9_number_61 fl9_23 k_468 rfl (fun k59 => ?_)
              have k59 : isK 20 6 473 := k59
              show Ok g mX9_number (rmd 3) (FQ g (pI (fun z M' => ((v < -999 ∨ 999 < v) ∧ M' = up M 468 0 1) ∨ (((-999 ≤ v ∧ v ≤ 999) ∧ ((b = 1 ∧ M 468 6 = 6) ∨ (b = 0 ∧ M 468 5 = 4))) ∧ M' = up M 468 0 2) ∨ ((-999 ≤ v ∧ v ≤ 999) ∧ ((b = 1 ∧ M 468 6 < 6 ∧ z = M 468 6 + 1 ∧ M' = up (up (up M 468 0 0) 473 (M 468 6) v) 468 6 (M 468 6 + 1)) ∨ (b = 0 ∧ M 468 5 < 4 ∧ z = M 468 5 + 1 ∧ M' = up (up (up M 468 0 0) 472 (M 468 5) v) 468 5 (M 468 5 + 1))))))) 64 [(0, rv g 468), (1, iv v), (2, iv b)] [rv g 473] (up M 468 0 2)
              refine x_aload_n 0 dX9_number_64 rfl rfl ?_
              refine x_geti (k := 6) (kI := 6) dX9_number_65 fl9_118 k_468 rfl rfl (fun ⟨a60, a60'⟩ => ?_)
              have e61 : (up M 468 0 2) 468 6 = M 468 6 := (by simp (disch := omega) only [up_s, up_o, up_k])
              simp only [e61] at a60 a60' ⊢
              refine x_iload_n 1 dX9_number_68 rfl rfl ?_
              refine x_iast dX9_number_69 k59 (by omega) (by omega) (by decide) ⟨by omega, by omega⟩ ?_
              refine x_aload_n 0 dX9_number_70 rfl rfl ?_
              refine x_dup dX9_number_71 rfl ?_
              refine x_geti (k := 6) (kI := 6) dX9_number_72 fl9_118 k_468 rfl rfl (fun ⟨a62, a62'⟩ => ?_)
              have e63 : (up (up M 468 0 2) 473 (M 468 6) v) 468 6 = M 468 6 := (by simp (disch := omega) only [up_s, up_o, up_k])
              simp only [e63] at a62 a62' ⊢
              refine x_iconst (1) dX9_number_75 rfl ?_
              refine x_iadd dX9_number_76 ?_
              refine x_puti (k := 6) (kI := 6) dX9_number_77 fw9_118 k_468 rfl ⟨by omega, by omega⟩ rfl rfl rfl ?_
              refine x_aload_n 0 dX9_number_80 rfl rfl ?_
              refine x_geti (k := 6) (kI := 6) dX9_number_81 fl9_118 k_468 rfl rfl (fun ⟨a64, a64'⟩ => ?_)
              have e65 : (up (up (up M 468 0 2) 473 (M 468 6) v) 468 6 ((M 468 6) + 1)) 468 6 = (M 468 6) + 1 := (by simp (disch := omega) only [up_s, up_o, up_k])
              simp only [e65] at a64 a64' ⊢
              refine x_iret dX9_number_84 rfl rfl ?_
              exfalso; omega
          · refine x_iconst (0) dX9_number_54 rfl ?_
            refine x_iret dX9_number_55 rfl rfl ?_
            exact ⟨_, rfl, Or.inr (Or.inl ⟨by omega, rfl⟩)⟩
    · refine x_aload_n 0 dX9_number_22 rfl rfl ?_
      refine x_geti (k := 6) (kI := 6) dX9_number_23 fl9_118 k_468 rfl rfl (fun ⟨a66, a66'⟩ => ?_)
      refine x_bipush (6) dX9_number_26 rfl ?_
      refine x_icmp_eq (tgt := 43) dX9_number_28 (by decide) ⟨by omega, by omega⟩ ⟨by decide, by decide⟩ (fun c67 => ?_) (fun c67 => ?_)
      · refine x_iconst (2) dX9_number_43 rfl ?_
        refine x_goto (tgt := 48) dX9_number_44 (by decide) ?_
        refine x_callVIP (as := [iv 2]) (rest := []) dX9_number_48 vl9_114 k_468 (c_X9_fails g M 2 (by omega) (by omega)) rfl rfl (Nat.le_of_ble_eq_true rfl) ⟨Nat.le_of_ble_eq_true rfl, Nat.le_of_ble_eq_true rfl⟩ (fun z68 h69 => ?_)
        refine x_if_eq (tgt := 56) dX9_number_51 (by decide) ⟨by omega, by omega⟩ (fun c71 => ?_) (fun c71 => ?_)
        · refine x_iload_n 2 dX9_number_56 rfl rfl ?_
          refine x_if_eq (tgt := 85) dX9_number_57 (by decide) ⟨by omega, by omega⟩ (fun c72 => ?_) (fun c72 => ?_)
          · refine x_aload_n 0 dX9_number_85 rfl rfl ?_
            refine x_getr (k := 7) (d := 4) dX9_number_86 fl9_20 k_468 rfl (fun k73 => ?_)
            have k73 : isK 20 4 472 := k73
            show Ok g mX9_number (rmd 3) (FQ g (pI (fun z M' => ((v < -999 ∨ 999 < v) ∧ M' = up M 468 0 1) ∨ (((-999 ≤ v ∧ v ≤ 999) ∧ ((b = 1 ∧ M 468 6 = 6) ∨ (b = 0 ∧ M 468 5 = 4))) ∧ M' = up M 468 0 2) ∨ ((-999 ≤ v ∧ v ≤ 999) ∧ ((b = 1 ∧ M 468 6 < 6 ∧ z = M 468 6 + 1 ∧ M' = up (up (up M 468 0 0) 473 (M 468 6) v) 468 6 (M 468 6 + 1)) ∨ (b = 0 ∧ M 468 5 < 4 ∧ z = M 468 5 + 1 ∧ M' = up (up (up M 468 0 0) 472 (M 468 5) v) 468 5 (M 468 5 + 1))))))) 89 [(0, rv g 468), (1, iv v), (2, iv b)] [rv g 472] (up M 468 0 2)
            refine x_aload_n 0 dX9_number_89 rfl rfl ?_
            refine x_geti (k := 5) (kI := 5) dX9_number_90 fl9_121 k_468 rfl rfl (fun ⟨a74, a74'⟩ => ?_)
            have e75 : (up M 468 0 2) 468 5 = M 468 5 := (by simp (disch := omega) only [up_s, up_o, up_k])
            simp only [e75] at a74 a74' ⊢
            refine x_iload_n 1 dX9_number_93 rfl rfl ?_
            refine x_iast dX9_number_94 k73 (by omega) (by omega) (by decide) ⟨by omega, by omega⟩ ?_
            refine x_aload_n 0 dX9_number_95 rfl rfl ?_
            refine x_dup dX9_number_96 rfl ?_
            refine x_geti (k := 5) (kI := 5) dX9_number_97 fl9_121 k_468 rfl rfl (fun ⟨a76, a76'⟩ => ?_)
            have e77 : (up (up M 468 0 2) 472 (M 468 5) v) 468 5 = M 468 5 := (by simp (disch := omega) only [up_s, up_o, up_k])
            simp only [e77] at a76 a76' ⊢
            refine x_iconst (1) dX9_number_100 rfl ?_
            refine x_iadd dX9_number_101 ?_
            refine x_puti (k := 5) (kI := 5) dX9_number_102 fw9_121 k_468 rfl ⟨by omega, by omega⟩ rfl rfl rfl ?_
            refine x_aload_n 0 dX9_number_105 rfl rfl ?_
            refine x_geti (k := 5) (kI := 5) dX9_number_106 fl9_121 k_468 rfl rfl (fun ⟨a78, a78'⟩ => ?_)
            have e79 : (up (up (up M 468 0 2) 472 (M 468 5) v) 468 5 ((M 468 5) + 1)) 468 5 = (M 468 5) + 1 := (by simp (disch := omega) only [up_s, up_o, up_k])
            simp only [e79] at a78 a78' ⊢
            refine x_iret dX9_number_109 rfl rfl ?_
            exfalso; omega
          · refine x_aload_n 0 dX9_number_60 rfl rfl ?_
            refine x_getr (k := 8) (d := 5) dX9_number_61 fl9_23 k_468 rfl (fun k80 => ?_)
            have k80 : isK 20 6 473 := k80
            show Ok g mX9_number (rmd 3) (FQ g (pI (fun z M' => ((v < -999 ∨ 999 < v) ∧ M' = up M 468 0 1) ∨ (((-999 ≤ v ∧ v ≤ 999) ∧ ((b = 1 ∧ M 468 6 = 6) ∨ (b = 0 ∧ M 468 5 = 4))) ∧ M' = up M 468 0 2) ∨ ((-999 ≤ v ∧ v ≤ 999) ∧ ((b = 1 ∧ M 468 6 < 6 ∧ z = M 468 6 + 1 ∧ M' = up (up (up M 468 0 0) 473 (M 468 6) v) 468 6 (M 468 6 + 1)) ∨ (b = 0 ∧ M 468 5 < 4 ∧ z = M 468 5 + 1 ∧ M' = up (up (up M 468 0 0) 472 (M 468 5) v) 468 5 (M 468 5 + 1))))))) 64 [(0, rv g 468), (1, iv v), (2, iv b)] [rv g 473] (up M 468 0 2)
            refine x_aload_n 0 dX9_number_64 rfl rfl ?_
            refine x_geti (k := 6) (kI := 6) dX9_number_65 fl9_118 k_468 rfl rfl (fun ⟨a81, a81'⟩ => ?_)
            have e82 : (up M 468 0 2) 468 6 = M 468 6 := (by simp (disch := omega) only [up_s, up_o, up_k])
            simp only [e82] at a81 a81' ⊢
            refine x_iload_n 1 dX9_number_68 rfl rfl ?_
            refine x_iast dX9_number_69 k80 (by omega) (by omega) (by decide) ⟨by omega, by omega⟩ ?_
            refine x_aload_n 0 dX9_number_70 rfl rfl ?_
            refine x_dup dX9_number_71 rfl ?_
            refine x_geti (k := 6) (kI := 6) dX9_number_72 fl9_118 k_468 rfl rfl (fun ⟨a83, a83'⟩ => ?_)
            have e84 : (up (up M 468 0 2) 473 (M 468 6) v) 468 6 = M 468 6 := (by simp (disch := omega) only [up_s, up_o, up_k])
            simp only [e84] at a83 a83' ⊢
            refine x_iconst (1) dX9_number_75 rfl ?_
            refine x_iadd dX9_number_76 ?_
            refine x_puti (k := 6) (kI := 6) dX9_number_77 fw9_118 k_468 rfl ⟨by omega, by omega⟩ rfl rfl rfl ?_
            refine x_aload_n 0 dX9_number_80 rfl rfl ?_
            refine x_geti (k := 6) (kI := 6) dX9_number_81 fl9_118 k_468 rfl rfl (fun ⟨a85, a85'⟩ => ?_)
            have e86 : (up (up (up M 468 0 2) 473 (M 468 6) v) 468 6 ((M 468 6) + 1)) 468 6 = (M 468 6) + 1 := (by simp (disch := omega) only [up_s, up_o, up_k])
            simp only [e86] at a85 a85' ⊢
            refine x_iret dX9_number_84 rfl rfl ?_
            exfalso; omega
        · refine x_iconst (0) dX9_number_54 rfl ?_
          refine x_iret dX9_number_55 rfl rfl ?_
          exact ⟨_, rfl, Or.inr (Or.inl ⟨by omega, rfl⟩)⟩
      · refine x_iload_n 2 dX9_number_31 rfl rfl ?_
        refine x_if_ne (tgt := 47) dX9_number_32 (by decide) ⟨by omega, by omega⟩ (fun c87 => ?_) (fun c87 => ?_)
        · refine x_iconst (0) dX9_number_47 rfl ?_
          refine x_callVIP (as := [iv 0]) (rest := []) dX9_number_48 vl9_114 k_468 (c_X9_fails g M 0 (by omega) (by omega)) rfl rfl (Nat.le_of_ble_eq_true rfl) ⟨Nat.le_of_ble_eq_true rfl, Nat.le_of_ble_eq_true rfl⟩ (fun z88 h89 => ?_)
          refine x_if_eq (tgt := 56) dX9_number_51 (by decide) ⟨by omega, by omega⟩ (fun c91 => ?_) (fun c91 => ?_)
          · refine x_iload_n 2 dX9_number_56 rfl rfl ?_
            refine x_if_eq (tgt := 85) dX9_number_57 (by decide) ⟨by omega, by omega⟩ (fun c92 => ?_) (fun c92 => ?_)
            · refine x_aload_n 0 dX9_number_85 rfl rfl ?_
              refine x_getr (k := 7) (d := 4) dX9_number_86 fl9_20 k_468 rfl (fun k93 => ?_)
              have k93 : isK 20 4 472 := k93
              show Ok g mX9_number (rmd 3) (FQ g (pI (fun z M' => ((v < -999 ∨ 999 < v) ∧ M' = up M 468 0 1) ∨ (((-999 ≤ v ∧ v ≤ 999) ∧ ((b = 1 ∧ M 468 6 = 6) ∨ (b = 0 ∧ M 468 5 = 4))) ∧ M' = up M 468 0 2) ∨ ((-999 ≤ v ∧ v ≤ 999) ∧ ((b = 1 ∧ M 468 6 < 6 ∧ z = M 468 6 + 1 ∧ M' = up (up (up M 468 0 0) 473 (M 468 6) v) 468 6 (M 468 6 + 1)) ∨ (b = 0 ∧ M 468 5 < 4 ∧ z = M 468 5 + 1 ∧ M' = up (up (up M 468 0 0) 472 (M 468 5) v) 468 5 (M 468 5 + 1))))))) 89 [(0, rv g 468), (1, iv v), (2, iv b)] [rv g 472] (up M 468 0 0)
              refine x_aload_n 0 dX9_number_89 rfl rfl ?_
              refine x_geti (k := 5) (kI := 5) dX9_number_90 fl9_121 k_468 rfl rfl (fun ⟨a94, a94'⟩ => ?_)
              have e95 : (up M 468 0 0) 468 5 = M 468 5 := (by simp (disch := omega) only [up_s, up_o, up_k])
              simp only [e95] at a94 a94' ⊢
              refine x_iload_n 1 dX9_number_93 rfl rfl ?_
              refine x_iast dX9_number_94 k93 (by omega) (by omega) (by decide) ⟨by omega, by omega⟩ ?_
              refine x_aload_n 0 dX9_number_95 rfl rfl ?_
              refine x_dup dX9_number_96 rfl ?_
              refine x_geti (k := 5) (kI := 5) dX9_number_97 fl9_121 k_468 rfl rfl (fun ⟨a96, a96'⟩ => ?_)
              have e97 : (up (up M 468 0 0) 472 (M 468 5) v) 468 5 = M 468 5 := (by simp (disch := omega) only [up_s, up_o, up_k])
              simp only [e97] at a96 a96' ⊢
              refine x_iconst (1) dX9_number_100 rfl ?_
              refine x_iadd dX9_number_101 ?_
              refine x_puti (k := 5) (kI := 5) dX9_number_102 fw9_121 k_468 rfl ⟨by omega, by omega⟩ rfl rfl rfl ?_
              refine x_aload_n 0 dX9_number_105 rfl rfl ?_
              refine x_geti (k := 5) (kI := 5) dX9_number_106 fl9_121 k_468 rfl rfl (fun ⟨a98, a98'⟩ => ?_)
              have e99 : (up (up (up M 468 0 0) 472 (M 468 5) v) 468 5 ((M 468 5) + 1)) 468 5 = (M 468 5) + 1 := (by simp (disch := omega) only [up_s, up_o, up_k])
              simp only [e99] at a98 a98' ⊢
              refine x_iret dX9_number_109 rfl rfl ?_
              exact ⟨_, rfl, Or.inr (Or.inr (⟨by omega, Or.inr ⟨by omega, by omega, rfl, rfl⟩⟩))⟩
            · refine x_aload_n 0 dX9_number_60 rfl rfl ?_
              refine x_getr (k := 8) (d := 5) dX9_number_61 fl9_23 k_468 rfl (fun k100 => ?_)
              have k100 : isK 20 6 473 := k100
              show Ok g mX9_number (rmd 3) (FQ g (pI (fun z M' => ((v < -999 ∨ 999 < v) ∧ M' = up M 468 0 1) ∨ (((-999 ≤ v ∧ v ≤ 999) ∧ ((b = 1 ∧ M 468 6 = 6) ∨ (b = 0 ∧ M 468 5 = 4))) ∧ M' = up M 468 0 2) ∨ ((-999 ≤ v ∧ v ≤ 999) ∧ ((b = 1 ∧ M 468 6 < 6 ∧ z = M 468 6 + 1 ∧ M' = up (up (up M 468 0 0) 473 (M 468 6) v) 468 6 (M 468 6 + 1)) ∨ (b = 0 ∧ M 468 5 < 4 ∧ z = M 468 5 + 1 ∧ M' = up (up (up M 468 0 0) 472 (M 468 5) v) 468 5 (M 468 5 + 1))))))) 64 [(0, rv g 468), (1, iv v), (2, iv b)] [rv g 473] (up M 468 0 0)
              refine x_aload_n 0 dX9_number_64 rfl rfl ?_
              refine x_geti (k := 6) (kI := 6) dX9_number_65 fl9_118 k_468 rfl rfl (fun ⟨a101, a101'⟩ => ?_)
              have e102 : (up M 468 0 0) 468 6 = M 468 6 := (by simp (disch := omega) only [up_s, up_o, up_k])
              simp only [e102] at a101 a101' ⊢
              refine x_iload_n 1 dX9_number_68 rfl rfl ?_
              refine x_iast dX9_number_69 k100 (by omega) (by omega) (by decide) ⟨by omega, by omega⟩ ?_
              refine x_aload_n 0 dX9_number_70 rfl rfl ?_
              refine x_dup dX9_number_71 rfl ?_
              refine x_geti (k := 6) (kI := 6) dX9_number_72 fl9_118 k_468 rfl rfl (fun ⟨a103, a103'⟩ => ?_)
              have e104 : (up (up M 468 0 0) 473 (M 468 6) v) 468 6 = M 468 6 := (by simp (disch := omega) only [up_s, up_o, up_k])
              simp only [e104] at a103 a103' ⊢
              refine x_iconst (1) dX9_number_75 rfl ?_
              refine x_iadd dX9_number_76 ?_
              refine x_puti (k := 6) (kI := 6) dX9_number_77 fw9_118 k_468 rfl ⟨by omega, by omega⟩ rfl rfl rfl ?_
              refine x_aload_n 0 dX9_number_80 rfl rfl ?_
              refine x_geti (k := 6) (kI := 6) dX9_number_81 fl9_118 k_468 rfl rfl (fun ⟨a105, a105'⟩ => ?_)
              have e106 : (up (up (up M 468 0 0) 473 (M 468 6) v) 468 6 ((M 468 6) + 1)) 468 6 = (M 468 6) + 1 := (by simp (disch := omega) only [up_s, up_o, up_k])
              simp only [e106] at a105 a105' ⊢
              refine x_iret dX9_number_84 rfl rfl ?_
              exact ⟨_, rfl, Or.inr (Or.inr (⟨by omega, Or.inl ⟨by omega, by omega, rfl, rfl⟩⟩))⟩
          · refine x_iconst (0) dX9_number_54 rfl ?_
            refine x_iret dX9_number_55 rfl rfl ?_
            exfalso; omega
        · refine x_aload_n 0 dX9_number_35 rfl rfl ?_
          refine x_geti (k := 5) (kI := 5) dX9_number_36 fl9_121 k_468 rfl rfl (fun ⟨a107, a107'⟩ => ?_)
          refine x_iconst (4) dX9_number_39 rfl ?_
          refine x_icmp_ne (tgt := 47) dX9_number_40 (by decide) ⟨by omega, by omega⟩ ⟨by decide, by decide⟩ (fun c108 => ?_) (fun c108 => ?_)
          · refine x_iconst (0) dX9_number_47 rfl ?_
            refine x_callVIP (as := [iv 0]) (rest := []) dX9_number_48 vl9_114 k_468 (c_X9_fails g M 0 (by omega) (by omega)) rfl rfl (Nat.le_of_ble_eq_true rfl) ⟨Nat.le_of_ble_eq_true rfl, Nat.le_of_ble_eq_true rfl⟩ (fun z109 h110 => ?_)
            refine x_if_eq (tgt := 56) dX9_number_51 (by decide) ⟨by omega, by omega⟩ (fun c112 => ?_) (fun c112 => ?_)
            · refine x_iload_n 2 dX9_number_56 rfl rfl ?_
              refine x_if_eq (tgt := 85) dX9_number_57 (by decide) ⟨by omega, by omega⟩ (fun c113 => ?_) (fun c113 => ?_)
              · refine x_aload_n 0 dX9_number_85 rfl rfl ?_
                refine x_getr (k := 7) (d := 4) dX9_number_86 fl9_20 k_468 rfl (fun k114 => ?_)
                have k114 : isK 20 4 472 := k114
                show Ok g mX9_number (rmd 3) (FQ g (pI (fun z M' => ((v < -999 ∨ 999 < v) ∧ M' = up M 468 0 1) ∨ (((-999 ≤ v ∧ v ≤ 999) ∧ ((b = 1 ∧ M 468 6 = 6) ∨ (b = 0 ∧ M 468 5 = 4))) ∧ M' = up M 468 0 2) ∨ ((-999 ≤ v ∧ v ≤ 999) ∧ ((b = 1 ∧ M 468 6 < 6 ∧ z = M 468 6 + 1 ∧ M' = up (up (up M 468 0 0) 473 (M 468 6) v) 468 6 (M 468 6 + 1)) ∨ (b = 0 ∧ M 468 5 < 4 ∧ z = M 468 5 + 1 ∧ M' = up (up (up M 468 0 0) 472 (M 468 5) v) 468 5 (M 468 5 + 1))))))) 89 [(0, rv g 468), (1, iv v), (2, iv b)] [rv g 472] (up M 468 0 0)
                refine x_aload_n 0 dX9_number_89 rfl rfl ?_
                refine x_geti (k := 5) (kI := 5) dX9_number_90 fl9_121 k_468 rfl rfl (fun ⟨a115, a115'⟩ => ?_)
                have e116 : (up M 468 0 0) 468 5 = M 468 5 := (by simp (disch := omega) only [up_s, up_o, up_k])
                simp only [e116] at a115 a115' ⊢
                refine x_iload_n 1 dX9_number_93 rfl rfl ?_
                refine x_iast dX9_number_94 k114 (by omega) (by omega) (by decide) ⟨by omega, by omega⟩ ?_
                refine x_aload_n 0 dX9_number_95 rfl rfl ?_
                refine x_dup dX9_number_96 rfl ?_
                refine x_geti (k := 5) (kI := 5) dX9_number_97 fl9_121 k_468 rfl rfl (fun ⟨a117, a117'⟩ => ?_)
                have e118 : (up (up M 468 0 0) 472 (M 468 5) v) 468 5 = M 468 5 := (by simp (disch := omega) only [up_s, up_o, up_k])
                simp only [e118] at a117 a117' ⊢
                refine x_iconst (1) dX9_number_100 rfl ?_
                refine x_iadd dX9_number_101 ?_
                refine x_puti (k := 5) (kI := 5) dX9_number_102 fw9_121 k_468 rfl ⟨by omega, by omega⟩ rfl rfl rfl ?_
                refine x_aload_n 0 dX9_number_105 rfl rfl ?_
                refine x_geti (k := 5) (kI := 5) dX9_number_106 fl9_121 k_468 rfl rfl (fun ⟨a119, a119'⟩ => ?_)
                have e120 : (up (up (up M 468 0 0) 472 (M 468 5) v) 468 5 ((M 468 5) + 1)) 468 5 = (M 468 5) + 1 := (by simp (disch := omega) only [up_s, up_o, up_k])
                simp only [e120] at a119 a119' ⊢
                refine x_iret dX9_number_109 rfl rfl ?_
                exact ⟨_, rfl, Or.inr (Or.inr (⟨by omega, Or.inr ⟨by omega, by omega, rfl, rfl⟩⟩))⟩
              · refine x_aload_n 0 dX9_number_60 rfl rfl ?_
                refine x_getr (k := 8) (d := 5) dX9_number_61 fl9_23 k_468 rfl (fun k121 => ?_)
                have k121 : isK 20 6 473 := k121
                show Ok g mX9_number (rmd 3) (FQ g (pI (fun z M' => ((v < -999 ∨ 999 < v) ∧ M' = up M 468 0 1) ∨ (((-999 ≤ v ∧ v ≤ 999) ∧ ((b = 1 ∧ M 468 6 = 6) ∨ (b = 0 ∧ M 468 5 = 4))) ∧ M' = up M 468 0 2) ∨ ((-999 ≤ v ∧ v ≤ 999) ∧ ((b = 1 ∧ M 468 6 < 6 ∧ z = M 468 6 + 1 ∧ M' = up (up (up M 468 0 0) 473 (M 468 6) v) 468 6 (M 468 6 + 1)) ∨ (b = 0 ∧ M 468 5 < 4 ∧ z = M 468 5 + 1 ∧ M' = up (up (up M 468 0 0) 472 (M 468 5) v) 468 5 (M 468 5 + 1))))))) 64 [(0, rv g 468), (1, iv v), (2, iv b)] [rv g 473] (up M 468 0 0)
                refine x_aload_n 0 dX9_number_64 rfl rfl ?_
                refine x_geti (k := 6) (kI := 6) dX9_number_65 fl9_118 k_468 rfl rfl (fun ⟨a122, a122'⟩ => ?_)
                have e123 : (up M 468 0 0) 468 6 = M 468 6 := (by simp (disch := omega) only [up_s, up_o, up_k])
                simp only [e123] at a122 a122' ⊢
                refine x_iload_n 1 dX9_number_68 rfl rfl ?_
                refine x_iast dX9_number_69 k121 (by omega) (by omega) (by decide) ⟨by omega, by omega⟩ ?_
                refine x_aload_n 0 dX9_number_70 rfl rfl ?_
                refine x_dup dX9_number_71 rfl ?_
                refine x_geti (k := 6) (kI := 6) dX9_number_72 fl9_118 k_468 rfl rfl (fun ⟨a124, a124'⟩ => ?_)
                have e125 : (up (up M 468 0 0) 473 (M 468 6) v) 468 6 = M 468 6 := (by simp (disch := omega) only [up_s, up_o, up_k])
                simp only [e125] at a124 a124' ⊢
                refine x_iconst (1) dX9_number_75 rfl ?_
                refine x_iadd dX9_number_76 ?_
                refine x_puti (k := 6) (kI := 6) dX9_number_77 fw9_118 k_468 rfl ⟨by omega, by omega⟩ rfl rfl rfl ?_
                refine x_aload_n 0 dX9_number_80 rfl rfl ?_
                refine x_geti (k := 6) (kI := 6) dX9_number_81 fl9_118 k_468 rfl rfl (fun ⟨a126, a126'⟩ => ?_)
                have e127 : (up (up (up M 468 0 0) 473 (M 468 6) v) 468 6 ((M 468 6) + 1)) 468 6 = (M 468 6) + 1 := (by simp (disch := omega) only [up_s, up_o, up_k])
                simp only [e127] at a126 a126' ⊢
                refine x_iret dX9_number_84 rfl rfl ?_
                exact ⟨_, rfl, Or.inr (Or.inr (⟨by omega, Or.inl ⟨by omega, by omega, rfl, rfl⟩⟩))⟩
            · refine x_iconst (0) dX9_number_54 rfl ?_
              refine x_iret dX9_number_55 rfl rfl ?_
              exfalso; omega
          · refine x_iconst (2) dX9_number_43 rfl ?_
            refine x_goto (tgt := 48) dX9_number_44 (by decide) ?_
            refine x_callVIP (as := [iv 2]) (rest := []) dX9_number_48 vl9_114 k_468 (c_X9_fails g M 2 (by omega) (by omega)) rfl rfl (Nat.le_of_ble_eq_true rfl) ⟨Nat.le_of_ble_eq_true rfl, Nat.le_of_ble_eq_true rfl⟩ (fun z128 h129 => ?_)
            refine x_if_eq (tgt := 56) dX9_number_51 (by decide) ⟨by omega, by omega⟩ (fun c131 => ?_) (fun c131 => ?_)
            · refine x_iload_n 2 dX9_number_56 rfl rfl ?_
              refine x_if_eq (tgt := 85) dX9_number_57 (by decide) ⟨by omega, by omega⟩ (fun c132 => ?_) (fun c132 => ?_)
              · refine x_aload_n 0 dX9_number_85 rfl rfl ?_
                refine x_getr (k := 7) (d := 4) dX9_number_86 fl9_20 k_468 rfl (fun k133 => ?_)
                have k133 : isK 20 4 472 := k133
                show Ok g mX9_number (rmd 3) (FQ g (pI (fun z M' => ((v < -999 ∨ 999 < v) ∧ M' = up M 468 0 1) ∨ (((-999 ≤ v ∧ v ≤ 999) ∧ ((b = 1 ∧ M 468 6 = 6) ∨ (b = 0 ∧ M 468 5 = 4))) ∧ M' = up M 468 0 2) ∨ ((-999 ≤ v ∧ v ≤ 999) ∧ ((b = 1 ∧ M 468 6 < 6 ∧ z = M 468 6 + 1 ∧ M' = up (up (up M 468 0 0) 473 (M 468 6) v) 468 6 (M 468 6 + 1)) ∨ (b = 0 ∧ M 468 5 < 4 ∧ z = M 468 5 + 1 ∧ M' = up (up (up M 468 0 0) 472 (M 468 5) v) 468 5 (M 468 5 + 1))))))) 89 [(0, rv g 468), (1, iv v), (2, iv b)] [rv g 472] (up M 468 0 2)
                refine x_aload_n 0 dX9_number_89 rfl rfl ?_
                refine x_geti (k := 5) (kI := 5) dX9_number_90 fl9_121 k_468 rfl rfl (fun ⟨a134, a134'⟩ => ?_)
                have e135 : (up M 468 0 2) 468 5 = M 468 5 := (by simp (disch := omega) only [up_s, up_o, up_k])
                simp only [e135] at a134 a134' ⊢
                refine x_iload_n 1 dX9_number_93 rfl rfl ?_
                refine x_iast dX9_number_94 k133 (by omega) (by omega) (by decide) ⟨by omega, by omega⟩ ?_
                refine x_aload_n 0 dX9_number_95 rfl rfl ?_
                refine x_dup dX9_number_96 rfl ?_
                refine x_geti (k := 5) (kI := 5) dX9_number_97 fl9_121 k_468 rfl rfl (fun ⟨a136, a136'⟩ => ?_)
                have e137 : (up (up M 468 0 2) 472 (M 468 5) v) 468 5 = M 468 5 := (by simp (disch := omega) only [up_s, up_o, up_k])
                simp only [e137] at a136 a136' ⊢
                refine x_iconst (1) dX9_number_100 rfl ?_
                refine x_iadd dX9_number_101 ?_
                refine x_puti (k := 5) (kI := 5) dX9_number_102 fw9_121 k_468 rfl ⟨by omega, by omega⟩ rfl rfl rfl ?_
                refine x_aload_n 0 dX9_number_105 rfl rfl ?_
                refine x_geti (k := 5) (kI := 5) dX9_number_106 fl9_121 k_468 rfl rfl (fun ⟨a138, a138'⟩ => ?_)
                have e139 : (up (up (up M 468 0 2) 472 (M 468 5) v) 468 5 ((M 468 5) + 1)) 468 5 = (M 468 5) + 1 := (by simp (disch := omega) only [up_s, up_o, up_k])
                simp only [e139] at a138 a138' ⊢
                refine x_iret dX9_number_109 rfl rfl ?_
                exfalso; omega
              · refine x_aload_n 0 dX9_number_60 rfl rfl ?_
                refine x_getr (k := 8) (d := 5) dX9_number_61 fl9_23 k_468 rfl (fun k140 => ?_)
                have k140 : isK 20 6 473 := k140
                show Ok g mX9_number (rmd 3) (FQ g (pI (fun z M' => ((v < -999 ∨ 999 < v) ∧ M' = up M 468 0 1) ∨ (((-999 ≤ v ∧ v ≤ 999) ∧ ((b = 1 ∧ M 468 6 = 6) ∨ (b = 0 ∧ M 468 5 = 4))) ∧ M' = up M 468 0 2) ∨ ((-999 ≤ v ∧ v ≤ 999) ∧ ((b = 1 ∧ M 468 6 < 6 ∧ z = M 468 6 + 1 ∧ M' = up (up (up M 468 0 0) 473 (M 468 6) v) 468 6 (M 468 6 + 1)) ∨ (b = 0 ∧ M 468 5 < 4 ∧ z = M 468 5 + 1 ∧ M' = up (up (up M 468 0 0) 472 (M 468 5) v) 468 5 (M 468 5 + 1))))))) 64 [(0, rv g 468), (1, iv v), (2, iv b)] [rv g 473] (up M 468 0 2)
                refine x_aload_n 0 dX9_number_64 rfl rfl ?_
                refine x_geti (k := 6) (kI := 6) dX9_number_65 fl9_118 k_468 rfl rfl (fun ⟨a141, a141'⟩ => ?_)
                have e142 : (up M 468 0 2) 468 6 = M 468 6 := (by simp (disch := omega) only [up_s, up_o, up_k])
                simp only [e142] at a141 a141' ⊢
                refine x_iload_n 1 dX9_number_68 rfl rfl ?_
                refine x_iast dX9_number_69 k140 (by omega) (by omega) (by decide) ⟨by omega, by omega⟩ ?_
                refine x_aload_n 0 dX9_number_70 rfl rfl ?_
                refine x_dup dX9_number_71 rfl ?_
                refine x_geti (k := 6) (kI := 6) dX9_number_72 fl9_118 k_468 rfl rfl (fun ⟨a143, a143'⟩ => ?_)
                have e144 : (up (up M 468 0 2) 473 (M 468 6) v) 468 6 = M 468 6 := (by simp (disch := omega) only [up_s, up_o, up_k])
                simp only [e144] at a143 a143' ⊢
                refine x_iconst (1) dX9_number_75 rfl ?_
                refine x_iadd dX9_number_76 ?_
                refine x_puti (k := 6) (kI := 6) dX9_number_77 fw9_118 k_468 rfl ⟨by omega, by omega⟩ rfl rfl rfl ?_
                refine x_aload_n 0 dX9_number_80 rfl rfl ?_
                refine x_geti (k := 6) (kI := 6) dX9_number_81 fl9_118 k_468 rfl rfl (fun ⟨a145, a145'⟩ => ?_)
                have e146 : (up (up (up M 468 0 2) 473 (M 468 6) v) 468 6 ((M 468 6) + 1)) 468 6 = (M 468 6) + 1 := (by simp (disch := omega) only [up_s, up_o, up_k])
                simp only [e146] at a145 a145' ⊢
                refine x_iret dX9_number_84 rfl rfl ?_
                exfalso; omega
            · refine x_iconst (0) dX9_number_54 rfl ?_
              refine x_iret dX9_number_55 rfl rfl ?_
              exact ⟨_, rfl, Or.inr (Or.inl ⟨by omega, rfl⟩)⟩
  · refine x_iconst (1) dX9_number_14 rfl ?_
    refine x_goto (tgt := 48) dX9_number_15 (by decide) ?_
    refine x_callVIP (as := [iv 1]) (rest := []) dX9_number_48 vl9_114 k_468 (c_X9_fails g M 1 (by omega) (by omega)) rfl rfl (Nat.le_of_ble_eq_true rfl) ⟨Nat.le_of_ble_eq_true rfl, Nat.le_of_ble_eq_true rfl⟩ (fun z147 h148 => ?_)
    refine x_if_eq (tgt := 56) dX9_number_51 (by decide) ⟨by omega, by omega⟩ (fun c150 => ?_) (fun c150 => ?_)
    · refine x_iload_n 2 dX9_number_56 rfl rfl ?_
      refine x_if_eq (tgt := 85) dX9_number_57 (by decide) ⟨by omega, by omega⟩ (fun c151 => ?_) (fun c151 => ?_)
      · refine x_aload_n 0 dX9_number_85 rfl rfl ?_
        refine x_getr (k := 7) (d := 4) dX9_number_86 fl9_20 k_468 rfl (fun k152 => ?_)
        have k152 : isK 20 4 472 := k152
        show Ok g mX9_number (rmd 3) (FQ g (pI (fun z M' => ((v < -999 ∨ 999 < v) ∧ M' = up M 468 0 1) ∨ (((-999 ≤ v ∧ v ≤ 999) ∧ ((b = 1 ∧ M 468 6 = 6) ∨ (b = 0 ∧ M 468 5 = 4))) ∧ M' = up M 468 0 2) ∨ ((-999 ≤ v ∧ v ≤ 999) ∧ ((b = 1 ∧ M 468 6 < 6 ∧ z = M 468 6 + 1 ∧ M' = up (up (up M 468 0 0) 473 (M 468 6) v) 468 6 (M 468 6 + 1)) ∨ (b = 0 ∧ M 468 5 < 4 ∧ z = M 468 5 + 1 ∧ M' = up (up (up M 468 0 0) 472 (M 468 5) v) 468 5 (M 468 5 + 1))))))) 89 [(0, rv g 468), (1, iv v), (2, iv b)] [rv g 472] (up M 468 0 1)
        refine x_aload_n 0 dX9_number_89 rfl rfl ?_
        refine x_geti (k := 5) (kI := 5) dX9_number_90 fl9_121 k_468 rfl rfl (fun ⟨a153, a153'⟩ => ?_)
        have e154 : (up M 468 0 1) 468 5 = M 468 5 := (by simp (disch := omega) only [up_s, up_o, up_k])
        simp only [e154] at a153 a153' ⊢
        refine x_iload_n 1 dX9_number_93 rfl rfl ?_
        refine x_iast dX9_number_94 k152 (by omega) (by omega) (by decide) ⟨by omega, by omega⟩ ?_
        refine x_aload_n 0 dX9_number_95 rfl rfl ?_
        refine x_dup dX9_number_96 rfl ?_
        refine x_geti (k := 5) (kI := 5) dX9_number_97 fl9_121 k_468 rfl rfl (fun ⟨a155, a155'⟩ => ?_)
        have e156 : (up (up M 468 0 1) 472 (M 468 5) v) 468 5 = M 468 5 := (by simp (disch := omega) only [up_s, up_o, up_k])
        simp only [e156] at a155 a155' ⊢
        refine x_iconst (1) dX9_number_100 rfl ?_
        refine x_iadd dX9_number_101 ?_
        refine x_puti (k := 5) (kI := 5) dX9_number_102 fw9_121 k_468 rfl ⟨by omega, by omega⟩ rfl rfl rfl ?_
        refine x_aload_n 0 dX9_number_105 rfl rfl ?_
        refine x_geti (k := 5) (kI := 5) dX9_number_106 fl9_121 k_468 rfl rfl (fun ⟨a157, a157'⟩ => ?_)
        have e158 : (up (up (up M 468 0 1) 472 (M 468 5) v) 468 5 ((M 468 5) + 1)) 468 5 = (M 468 5) + 1 := (by simp (disch := omega) only [up_s, up_o, up_k])
        simp only [e158] at a157 a157' ⊢
        refine x_iret dX9_number_109 rfl rfl ?_
        exfalso; omega
      · refine x_aload_n 0 dX9_number_60 rfl rfl ?_
        refine x_getr (k := 8) (d := 5) dX9_number_61 fl9_23 k_468 rfl (fun k159 => ?_)
        have k159 : isK 20 6 473 := k159
        show Ok g mX9_number (rmd 3) (FQ g (pI (fun z M' => ((v < -999 ∨ 999 < v) ∧ M' = up M 468 0 1) ∨ (((-999 ≤ v ∧ v ≤ 999) ∧ ((b = 1 ∧ M 468 6 = 6) ∨ (b = 0 ∧ M 468 5 = 4))) ∧ M' = up M 468 0 2) ∨ ((-999 ≤ v ∧ v ≤ 999) ∧ ((b = 1 ∧ M 468 6 < 6 ∧ z = M 468 6 + 1 ∧ M' = up (up (up M 468 0 0) 473 (M 468 6) v) 468 6 (M 468 6 + 1)) ∨ (b = 0 ∧ M 468 5 < 4 ∧ z = M 468 5 + 1 ∧ M' = up (up (up M 468 0 0) 472 (M 468 5) v) 468 5 (M 468 5 + 1))))))) 64 [(0, rv g 468), (1, iv v), (2, iv b)] [rv g 473] (up M 468 0 1)
        refine x_aload_n 0 dX9_number_64 rfl rfl ?_
        refine x_geti (k := 6) (kI := 6) dX9_number_65 fl9_118 k_468 rfl rfl (fun ⟨a160, a160'⟩ => ?_)
        have e161 : (up M 468 0 1) 468 6 = M 468 6 := (by simp (disch := omega) only [up_s, up_o, up_k])
        simp only [e161] at a160 a160' ⊢
        refine x_iload_n 1 dX9_number_68 rfl rfl ?_
        refine x_iast dX9_number_69 k159 (by omega) (by omega) (by decide) ⟨by omega, by omega⟩ ?_
        refine x_aload_n 0 dX9_number_70 rfl rfl ?_
        refine x_dup dX9_number_71 rfl ?_
        refine x_geti (k := 6) (kI := 6) dX9_number_72 fl9_118 k_468 rfl rfl (fun ⟨a162, a162'⟩ => ?_)
        have e163 : (up (up M 468 0 1) 473 (M 468 6) v) 468 6 = M 468 6 := (by simp (disch := omega) only [up_s, up_o, up_k])
        simp only [e163] at a162 a162' ⊢
        refine x_iconst (1) dX9_number_75 rfl ?_
        refine x_iadd dX9_number_76 ?_
        refine x_puti (k := 6) (kI := 6) dX9_number_77 fw9_118 k_468 rfl ⟨by omega, by omega⟩ rfl rfl rfl ?_
        refine x_aload_n 0 dX9_number_80 rfl rfl ?_
        refine x_geti (k := 6) (kI := 6) dX9_number_81 fl9_118 k_468 rfl rfl (fun ⟨a164, a164'⟩ => ?_)
        have e165 : (up (up (up M 468 0 1) 473 (M 468 6) v) 468 6 ((M 468 6) + 1)) 468 6 = (M 468 6) + 1 := (by simp (disch := omega) only [up_s, up_o, up_k])
        simp only [e165] at a164 a164' ⊢
        refine x_iret dX9_number_84 rfl rfl ?_
        exfalso; omega
    · refine x_iconst (0) dX9_number_54 rfl ?_
      refine x_iret dX9_number_55 rfl rfl ?_
      exact ⟨_, rfl, Or.inl ⟨by omega, rfl⟩⟩

set_option maxHeartbeats 600000 in
set_option maxRecDepth 100000 in
theorem c_X9_wipe (g : GG) (M : Mem) (b : Int) (I : RB M) (b0 : b = 0 ∨ b = 1) : Ct g yX9_wipe cX9_wipe 3 (some .int) 0 [rv g 468, iv b] M (pI (fun z M' => (b = 1 ∧ z = M 468 1 ∧ M' = up (up M 468 0 0) 468 1 0) ∨ (b = 0 ∧ z = M 468 5 + M 468 6 ∧ M' = up (up (up M 468 0 0) 468 5 0) 468 6 0))) := by
  refine ct_of (by decide +kernel) (Nat.le_of_ble_eq_true rfl) ?_
  show Ok g mX9_wipe (rmd 0) (FQ g (pI (fun z M' => (b = 1 ∧ z = M 468 1 ∧ M' = up (up M 468 0 0) 468 1 0) ∨ (b = 0 ∧ z = M 468 5 + M 468 6 ∧ M' = up (up (up M 468 0 0) 468 5 0) 468 6 0)))) 0 [(0, rv g 468), (1, iv b)] [] M
  have i0 := I.rng
  refine x_aload_n 0 dX9_wipe_0 rfl rfl ?_
  refine x_iconst (0) dX9_wipe_1 rfl ?_
  refine x_puti (k := 0) (kI := 0) dX9_wipe_2 fw9_100 k_468 rfl ⟨by decide, by decide⟩ rfl rfl rfl ?_
  refine x_iload_n 1 dX9_wipe_5 rfl rfl ?_
  refine x_if_eq (tgt := 16) dX9_wipe_6 (by decide) ⟨by omega, by omega⟩ (fun c1 => ?_) (fun c1 => ?_)
  · refine x_aload_n 0 dX9_wipe_16 rfl rfl ?_
    refine x_geti (k := 5) (kI := 5) dX9_wipe_17 fl9_121 k_468 rfl rfl (fun ⟨a2, a2'⟩ => ?_)
    have e3 : (up M 468 0 0) 468 5 = M 468 5 := (by simp (disch := omega) only [up_s, up_o, up_k])
    simp only [e3] at a2 a2' ⊢
    refine x_aload_n 0 dX9_wipe_20 rfl rfl ?_
    refine x_geti (k := 6) (kI := 6) dX9_wipe_21 fl9_118 k_468 rfl rfl (fun ⟨a4, a4'⟩ => ?_)
    have e5 : (up M 468 0 0) 468 6 = M 468 6 := (by simp (disch := omega) only [up_s, up_o, up_k])
    simp only [e5] at a4 a4' ⊢
    refine x_iadd dX9_wipe_24 ?_
    refine x_istore_n (lv' := [(2, iv ((M 468 5) + (M 468 6))), (0, rv g 468), (1, iv b)]) dX9_wipe_25 rfl (Nat.le_of_ble_eq_true rfl) rfl ?_
    refine x_iload_n 2 dX9_wipe_26 rfl rfl ?_
    refine x_if_eq (tgt := 38) dX9_wipe_27 (by decide) ⟨by omega, by omega⟩ (fun c6 => ?_) (fun c6 => ?_)
    · refine x_aload_n 1 dX9_wipe_38 rfl rfl ?_
      refine x_iconst (0) dX9_wipe_39 rfl ?_
      refine x_puti (k := 5) (kI := 5) dX9_wipe_40 fw9_121 k_468 rfl ⟨by decide, by decide⟩ rfl rfl rfl ?_
      refine x_aload_n 1 dX9_wipe_43 rfl rfl ?_
      refine x_iconst (0) dX9_wipe_44 rfl ?_
      refine x_puti (k := 6) (kI := 6) dX9_wipe_45 fw9_118 k_468 rfl ⟨by decide, by decide⟩ rfl rfl rfl ?_
      refine x_iload_n 0 dX9_wipe_48 rfl rfl ?_
      refine x_iret dX9_wipe_49 rfl rfl ?_
      exact ⟨_, rfl, Or.inr ⟨by omega, rfl, rfl⟩⟩
    · refine x_aload_n 1 dX9_wipe_30 rfl rfl ?_
      refine x_iconst (0) dX9_wipe_31 rfl ?_
      refine x_puti (k := 1) (kI := 1) dX9_wipe_32 fw9_111 k_468 rfl ⟨by decide, by decide⟩ rfl rfl rfl ?_
      refine x_goto (tgt := 48) dX9_wipe_35 (by decide) ?_
      refine x_iload_n 0 dX9_wipe_48 rfl rfl ?_
      refine x_iret dX9_wipe_49 rfl rfl ?_
      exfalso; omega
  · refine x_aload_n 0 dX9_wipe_9 rfl rfl ?_
    refine x_geti (k := 1) (kI := 1) dX9_wipe_10 fl9_111 k_468 rfl rfl (fun ⟨a7, a7'⟩ => ?_)
    have e8 : (up M 468 0 0) 468 1 = M 468 1 := (by simp (disch := omega) only [up_s, up_o, up_k])
    simp only [e8] at a7 a7' ⊢
    refine x_goto (tgt := 25) dX9_wipe_13 (by decide) ?_
    refine x_istore_n (lv' := [(2, iv (M 468 1)), (0, rv g 468), (1, iv b)]) dX9_wipe_25 rfl (Nat.le_of_ble_eq_true rfl) rfl ?_
    refine x_iload_n 2 dX9_wipe_26 rfl rfl ?_
    refine x_if_eq (tgt := 38) dX9_wipe_27 (by decide) ⟨by omega, by omega⟩ (fun c9 => ?_) (fun c9 => ?_)
    · refine x_aload_n 1 dX9_wipe_38 rfl rfl ?_
      refine x_iconst (0) dX9_wipe_39 rfl ?_
      refine x_puti (k := 5) (kI := 5) dX9_wipe_40 fw9_121 k_468 rfl ⟨by decide, by decide⟩ rfl rfl rfl ?_
      refine x_aload_n 1 dX9_wipe_43 rfl rfl ?_
      refine x_iconst (0) dX9_wipe_44 rfl ?_
      refine x_puti (k := 6) (kI := 6) dX9_wipe_45 fw9_118 k_468 rfl ⟨by decide, by decide⟩ rfl rfl rfl ?_
      refine x_iload_n 0 dX9_wipe_48 rfl rfl ?_
      refine x_iret dX9_wipe_49 rfl rfl ?_
      exfalso; omega
    · refine x_aload_n 1 dX9_wipe_30 rfl rfl ?_
      refine x_iconst (0) dX9_wipe_31 rfl ?_
      refine x_puti (k := 1) (kI := 1) dX9_wipe_32 fw9_111 k_468 rfl ⟨by decide, by decide⟩ rfl rfl rfl ?_
      refine x_goto (tgt := 48) dX9_wipe_35 (by decide) ?_
      refine x_iload_n 0 dX9_wipe_48 rfl rfl ?_
      refine x_iret dX9_wipe_49 rfl rfl ?_
      exact ⟨_, rfl, Or.inl ⟨by omega, rfl, rfl⟩⟩

set_option maxHeartbeats 600000 in
set_option maxRecDepth 100000 in
theorem c_X9_problem (g : GG) (M : Mem) (c l : Int) (I : RB M) (hc : rg c) (hl : rg l) : Ct g yX9_problem cX9_problem 3 (some .int) 3 [rv g 468, iv c, iv l] M (pI (fun z M' => (¬ ((0 ≤ c ∧ c ≤ 3) ∧ 1 ≤ l ∧ l ≤ 400) ∧ M' = up M 468 0 1) ∨ ((((0 ≤ c ∧ c ≤ 3) ∧ 1 ≤ l ∧ l ≤ 400) ∧ M 468 9 = 5) ∧ M' = up M 468 0 2) ∨ ((((0 ≤ c ∧ c ≤ 3) ∧ 1 ≤ l ∧ l ≤ 400) ∧ M 468 9 < 5 ∧ z = M 468 9) ∧ M' = up (up (up (up M 468 0 0) 474 (M 468 9) c) 475 (M 468 9) l) 468 9 (M 468 9 + 1)))) := by
  refine ct_of (by decide +kernel) (Nat.le_of_ble_eq_true rfl) ?_
  show Ok g mX9_problem (rmd 3) (FQ g (pI (fun z M' => (¬ ((0 ≤ c ∧ c ≤ 3) ∧ 1 ≤ l ∧ l ≤ 400) ∧ M' = up M 468 0 1) ∨ ((((0 ≤ c ∧ c ≤ 3) ∧ 1 ≤ l ∧ l ≤ 400) ∧ M 468 9 = 5) ∧ M' = up M 468 0 2) ∨ ((((0 ≤ c ∧ c ≤ 3) ∧ 1 ≤ l ∧ l ≤ 400) ∧ M 468 9 < 5 ∧ z = M 468 9) ∧ M' = up (up (up (up M 468 0 0) 474 (M 468 9) c) 475 (M 468 9) l) 468 9 (M 468 9 + 1))))) 0 [(0, rv g 468), (1, iv c), (2, iv l)] [] M
  have i0 := I.rng
  have hc1 := hc.1
  have hc2 := hc.2
  have hl1 := hl.1
  have hl2 := hl.2
  refine x_aload_n 0 dX9_problem_0 rfl rfl ?_
  refine x_iload_n 1 dX9_problem_1 rfl rfl ?_
  refine x_iconst (0) dX9_problem_2 rfl ?_
  refine x_iconst (3) dX9_problem_3 rfl ?_
  refine x_callSIP (as := [iv c, iv 0, iv 3]) (rest := [rv g 468]) dX9_problem_4 sl9_103 (c_X9_in g M c 0 3 ⟨by omega, by omega⟩ ⟨by omega, by omega⟩ ⟨by omega, by omega⟩) rfl rfl (Nat.le_of_ble_eq_true rfl) ⟨Nat.le_of_ble_eq_true rfl, Nat.le_of_ble_eq_true rfl⟩ (fun z1 h2 => ?_)
  refine x_if_eq (tgt := 21) dX9_problem_7 (by decide) ⟨by omega, by omega⟩ (fun c4 => ?_) (fun c4 => ?_)
  · refine x_iconst (1) dX9_problem_21 rfl ?_
    refine x_goto (tgt := 38) dX9_problem_22 (by decide) ?_
    refine x_callVIP (as := [iv 1]) (rest := []) dX9_problem_38 vl9_114 k_468 (c_X9_fails g M 1 (by omega) (by omega)) rfl rfl (Nat.le_of_ble_eq_true rfl) ⟨Nat.le_of_ble_eq_true rfl, Nat.le_of_ble_eq_true rfl⟩ (fun z5 h6 => ?_)
    refine x_if_eq (tgt := 46) dX9_problem_41 (by decide) ⟨by omega, by omega⟩ (fun c8 => ?_) (fun c8 => ?_)
    · refine x_aload_n 0 dX9_problem_46 rfl rfl ?_
      refine x_getr (k := 10) (d := 6) dX9_problem_47 fl9_26 k_468 rfl (fun k9 => ?_)
      have k9 : isK 20 5 474 := k9
      show Ok g mX9_problem (rmd 3) (FQ g (pI (fun z M' => (¬ ((0 ≤ c ∧ c ≤ 3) ∧ 1 ≤ l ∧ l ≤ 400) ∧ M' = up M 468 0 1) ∨ ((((0 ≤ c ∧ c ≤ 3) ∧ 1 ≤ l ∧ l ≤ 400) ∧ M 468 9 = 5) ∧ M' = up M 468 0 2) ∨ ((((0 ≤ c ∧ c ≤ 3) ∧ 1 ≤ l ∧ l ≤ 400) ∧ M 468 9 < 5 ∧ z = M 468 9) ∧ M' = up (up (up (up M 468 0 0) 474 (M 468 9) c) 475 (M 468 9) l) 468 9 (M 468 9 + 1))))) 50 [(0, rv g 468), (1, iv c), (2, iv l)] [rv g 474] (up M 468 0 1)
      refine x_aload_n 0 dX9_problem_50 rfl rfl ?_
      refine x_geti (k := 9) (kI := 9) dX9_problem_51 fl9_124 k_468 rfl rfl (fun ⟨a10, a10'⟩ => ?_)
      have e11 : (up M 468 0 1) 468 9 = M 468 9 := (by simp (disch := omega) only [up_s, up_o, up_k])
      simp only [e11] at a10 a10' ⊢
      refine x_iload_n 1 dX9_problem_54 rfl rfl ?_
      refine x_iast dX9_problem_55 k9 (by omega) (by omega) (by decide) ⟨by omega, by omega⟩ ?_
      refine x_aload_n 0 dX9_problem_56 rfl rfl ?_
      refine x_getr (k := 11) (d := 7) dX9_problem_57 fl9_29 k_468 rfl (fun k12 => ?_)
      have k12 : isK 20 5 475 := k12
      show Ok g mX9_problem (rmd 3) (FQ g (pI (fun z M' => (¬ ((0 ≤ c ∧ c ≤ 3) ∧ 1 ≤ l ∧ l ≤ 400) ∧ M' = up M 468 0 1) ∨ ((((0 ≤ c ∧ c ≤ 3) ∧ 1 ≤ l ∧ l ≤ 400) ∧ M 468 9 = 5) ∧ M' = up M 468 0 2) ∨ ((((0 ≤ c ∧ c ≤ 3) ∧ 1 ≤ l ∧ l ≤ 400) ∧ M 468 9 < 5 ∧ z = M 468 9) ∧ M' = up (up (up (up M 468 0 0) 474 (M 468 9) c) 475 (M 468 9) l) 468 9 (M 468 9 + 1))))) 60 [(0, rv g 468), (1, iv c), (2, iv l)] [rv g 475] (up (up M 468 0 1) 474 (M 468 9) c)
      refine x_aload_n 0 dX9_problem_60 rfl rfl ?_
      refine x_geti (k := 9) (kI := 9) dX9_problem_61 fl9_124 k_468 rfl rfl (fun ⟨a13, a13'⟩ => ?_)
      have e14 : (up (up M 468 0 1) 474 (M 468 9) c) 468 9 = M 468 9 := (by simp (disch := omega) only [up_s, up_o, up_k])
      simp only [e14] at a13 a13' ⊢
      refine x_iload_n 2 dX9_problem_64 rfl rfl ?_
      refine x_iast dX9_problem_65 k12 (by omega) (by omega) (by decide) ⟨by omega, by omega⟩ ?_
      refine x_aload_n 0 dX9_problem_66 rfl rfl ?_
      refine x_dup dX9_problem_67 rfl ?_
      refine x_geti (k := 9) (kI := 9) dX9_problem_68 fl9_124 k_468 rfl rfl (fun ⟨a15, a15'⟩ => ?_)
      have e16 : (up (up (up M 468 0 1) 474 (M 468 9) c) 475 (M 468 9) l) 468 9 = M 468 9 := (by simp (disch := omega) only [up_s, up_o, up_k])
      simp only [e16] at a15 a15' ⊢
      refine x_iconst (1) dX9_problem_71 rfl ?_
      refine x_iadd dX9_problem_72 ?_
      refine x_puti (k := 9) (kI := 9) dX9_problem_73 fw9_124 k_468 rfl ⟨by omega, by omega⟩ rfl rfl rfl ?_
      refine x_aload_n 0 dX9_problem_76 rfl rfl ?_
      refine x_geti (k := 9) (kI := 9) dX9_problem_77 fl9_124 k_468 rfl rfl (fun ⟨a17, a17'⟩ => ?_)
      have e18 : (up (up (up (up M 468 0 1) 474 (M 468 9) c) 475 (M 468 9) l) 468 9 ((M 468 9) + 1)) 468 9 = (M 468 9) + 1 := (by simp (disch := omega) only [up_s, up_o, up_k])
      simp only [e18] at a17 a17' ⊢
      refine x_iconst (1) dX9_problem_80 rfl ?_
      refine x_isub dX9_problem_81 ?_
      refine x_iret dX9_problem_82 rfl rfl ?_
      exfalso; omega
    · refine x_iconst (0) dX9_problem_44 rfl ?_
      refine x_iret dX9_problem_45 rfl rfl ?_
      exact ⟨_, rfl, Or.inl ⟨by omega, rfl⟩⟩
  · refine x_iload_n 2 dX9_problem_10 rfl rfl ?_
    refine x_iconst (1) dX9_problem_11 rfl ?_
    refine x_sipush (400) dX9_problem_12 rfl ?_
    refine x_callSIP (as := [iv l, iv 1, iv 400]) (rest := [rv g 468]) dX9_problem_15 sl9_103 (c_X9_in g M l 1 400 ⟨by omega, by omega⟩ ⟨by omega, by omega⟩ ⟨by omega, by omega⟩) rfl rfl (Nat.le_of_ble_eq_true rfl) ⟨Nat.le_of_ble_eq_true rfl, Nat.le_of_ble_eq_true rfl⟩ (fun z19 h20 => ?_)
    refine x_if_ne (tgt := 25) dX9_problem_18 (by decide) ⟨by omega, by omega⟩ (fun c22 => ?_) (fun c22 => ?_)
    · refine x_aload_n 0 dX9_problem_25 rfl rfl ?_
      refine x_geti (k := 9) (kI := 9) dX9_problem_26 fl9_124 k_468 rfl rfl (fun ⟨a23, a23'⟩ => ?_)
      refine x_iconst (5) dX9_problem_29 rfl ?_
      refine x_icmp_ne (tgt := 37) dX9_problem_30 (by decide) ⟨by omega, by omega⟩ ⟨by decide, by decide⟩ (fun c24 => ?_) (fun c24 => ?_)
      · refine x_iconst (0) dX9_problem_37 rfl ?_
        refine x_callVIP (as := [iv 0]) (rest := []) dX9_problem_38 vl9_114 k_468 (c_X9_fails g M 0 (by omega) (by omega)) rfl rfl (Nat.le_of_ble_eq_true rfl) ⟨Nat.le_of_ble_eq_true rfl, Nat.le_of_ble_eq_true rfl⟩ (fun z25 h26 => ?_)
        refine x_if_eq (tgt := 46) dX9_problem_41 (by decide) ⟨by omega, by omega⟩ (fun c28 => ?_) (fun c28 => ?_)
        · refine x_aload_n 0 dX9_problem_46 rfl rfl ?_
          refine x_getr (k := 10) (d := 6) dX9_problem_47 fl9_26 k_468 rfl (fun k29 => ?_)
          have k29 : isK 20 5 474 := k29
          show Ok g mX9_problem (rmd 3) (FQ g (pI (fun z M' => (¬ ((0 ≤ c ∧ c ≤ 3) ∧ 1 ≤ l ∧ l ≤ 400) ∧ M' = up M 468 0 1) ∨ ((((0 ≤ c ∧ c ≤ 3) ∧ 1 ≤ l ∧ l ≤ 400) ∧ M 468 9 = 5) ∧ M' = up M 468 0 2) ∨ ((((0 ≤ c ∧ c ≤ 3) ∧ 1 ≤ l ∧ l ≤ 400) ∧ M 468 9 < 5 ∧ z = M 468 9) ∧ M' = up (up (up (up M 468 0 0) 474 (M 468 9) c) 475 (M 468 9) l) 468 9 (M 468 9 + 1))))) 50 [(0, rv g 468), (1, iv c), (2, iv l)] [rv g 474] (up M 468 0 0)
          refine x_aload_n 0 dX9_problem_50 rfl rfl ?_
          refine x_geti (k := 9) (kI := 9) dX9_problem_51 fl9_124 k_468 rfl rfl (fun ⟨a30, a30'⟩ => ?_)
          have e31 : (up M 468 0 0) 468 9 = M 468 9 := (by simp (disch := omega) only [up_s, up_o, up_k])
          simp only [e31] at a30 a30' ⊢
          refine x_iload_n 1 dX9_problem_54 rfl rfl ?_
          refine x_iast dX9_problem_55 k29 (by omega) (by omega) (by decide) ⟨by omega, by omega⟩ ?_
          refine x_aload_n 0 dX9_problem_56 rfl rfl ?_
          refine x_getr (k := 11) (d := 7) dX9_problem_57 fl9_29 k_468 rfl (fun k32 => ?_)
          have k32 : isK 20 5 475 := k32
          show Ok g mX9_problem (rmd 3) (FQ g (pI (fun z M' => (¬ ((0 ≤ c ∧ c ≤ 3) ∧ 1 ≤ l ∧ l ≤ 400) ∧ M' = up M 468 0 1) ∨ ((((0 ≤ c ∧ c ≤ 3) ∧ 1 ≤ l ∧ l ≤ 400) ∧ M 468 9 = 5) ∧ M' = up M 468 0 2) ∨ ((((0 ≤ c ∧ c ≤ 3) ∧ 1 ≤ l ∧ l ≤ 400) ∧ M 468 9 < 5 ∧ z = M 468 9) ∧ M' = up (up (up (up M 468 0 0) 474 (M 468 9) c) 475 (M 468 9) l) 468 9 (M 468 9 + 1))))) 60 [(0, rv g 468), (1, iv c), (2, iv l)] [rv g 475] (up (up M 468 0 0) 474 (M 468 9) c)
          refine x_aload_n 0 dX9_problem_60 rfl rfl ?_
          refine x_geti (k := 9) (kI := 9) dX9_problem_61 fl9_124 k_468 rfl rfl (fun ⟨a33, a33'⟩ => ?_)
          have e34 : (up (up M 468 0 0) 474 (M 468 9) c) 468 9 = M 468 9 := (by simp (disch := omega) only [up_s, up_o, up_k])
          simp only [e34] at a33 a33' ⊢
          refine x_iload_n 2 dX9_problem_64 rfl rfl ?_
          refine x_iast dX9_problem_65 k32 (by omega) (by omega) (by decide) ⟨by omega, by omega⟩ ?_
          refine x_aload_n 0 dX9_problem_66 rfl rfl ?_
          refine x_dup dX9_problem_67 rfl ?_
          refine x_geti (k := 9) (kI := 9) dX9_problem_68 fl9_124 k_468 rfl rfl (fun ⟨a35, a35'⟩ => ?_)
          have e36 : (up (up (up M 468 0 0) 474 (M 468 9) c) 475 (M 468 9) l) 468 9 = M 468 9 := (by simp (disch := omega) only [up_s, up_o, up_k])
          simp only [e36] at a35 a35' ⊢
          refine x_iconst (1) dX9_problem_71 rfl ?_
          refine x_iadd dX9_problem_72 ?_
          refine x_puti (k := 9) (kI := 9) dX9_problem_73 fw9_124 k_468 rfl ⟨by omega, by omega⟩ rfl rfl rfl ?_
          refine x_aload_n 0 dX9_problem_76 rfl rfl ?_
          refine x_geti (k := 9) (kI := 9) dX9_problem_77 fl9_124 k_468 rfl rfl (fun ⟨a37, a37'⟩ => ?_)
          have e38 : (up (up (up (up M 468 0 0) 474 (M 468 9) c) 475 (M 468 9) l) 468 9 ((M 468 9) + 1)) 468 9 = (M 468 9) + 1 := (by simp (disch := omega) only [up_s, up_o, up_k])
          simp only [e38] at a37 a37' ⊢
          refine x_iconst (1) dX9_problem_80 rfl ?_
          refine x_isub dX9_problem_81 ?_
          refine x_iret dX9_problem_82 rfl rfl ?_
          exact ⟨_, rfl, Or.inr (Or.inr (⟨⟨by omega, by omega, by omega⟩, rfl⟩))⟩
        · refine x_iconst (0) dX9_problem_44 rfl ?_
          refine x_iret dX9_problem_45 rfl rfl ?_
          exfalso; omega
      · refine x_iconst (2) dX9_problem_33 rfl ?_
        refine x_goto (tgt := 38) dX9_problem_34 (by decide) ?_
        refine x_callVIP (as := [iv 2]) (rest := []) dX9_problem_38 vl9_114 k_468 (c_X9_fails g M 2 (by omega) (by omega)) rfl rfl (Nat.le_of_ble_eq_true rfl) ⟨Nat.le_of_ble_eq_true rfl, Nat.le_of_ble_eq_true rfl⟩ (fun z39 h40 => ?_)
        refine x_if_eq (tgt := 46) dX9_problem_41 (by decide) ⟨by omega, by omega⟩ (fun c42 => ?_) (fun c42 => ?_)
        · refine x_aload_n 0 dX9_problem_46 rfl rfl ?_
          refine x_getr (k := 10) (d := 6) dX9_problem_47 fl9_26 k_468 rfl (fun k43 => ?_)
          have k43 : isK 20 5 474 := k43
          show Ok g mX9_problem (rmd 3) (FQ g (pI (fun z M' => (¬ ((0 ≤ c ∧ c ≤ 3) ∧ 1 ≤ l ∧ l ≤ 400) ∧ M' = up M 468 0 1) ∨ ((((0 ≤ c ∧ c ≤ 3) ∧ 1 ≤ l ∧ l ≤ 400) ∧ M 468 9 = 5) ∧ M' = up M 468 0 2) ∨ ((((0 ≤ c ∧ c ≤ 3) ∧ 1 ≤ l ∧ l ≤ 400) ∧ M 468 9 < 5 ∧ z = M 468 9) ∧ M' = up (up (up (up M 468 0 0) 474 (M 468 9) c) 475 (M 468 9) l) 468 9 (M 468 9 + 1))))) 50 [(0, rv g 468), (1, iv c), (2, iv l)] [rv g 474] (up M 468 0 2)
          refine x_aload_n 0 dX9_problem_50 rfl rfl ?_
          refine x_geti (k := 9) (kI := 9) dX9_problem_51 fl9_124 k_468 rfl rfl (fun ⟨a44, a44'⟩ => ?_)
          have e45 : (up M 468 0 2) 468 9 = M 468 9 := (by simp (disch := omega) only [up_s, up_o, up_k])
          simp only [e45] at a44 a44' ⊢
          refine x_iload_n 1 dX9_problem_54 rfl rfl ?_
          refine x_iast dX9_problem_55 k43 (by omega) (by omega) (by decide) ⟨by omega, by omega⟩ ?_
          refine x_aload_n 0 dX9_problem_56 rfl rfl ?_
          refine x_getr (k := 11) (d := 7) dX9_problem_57 fl9_29 k_468 rfl (fun k46 => ?_)
          have k46 : isK 20 5 475 := k46
          show Ok g mX9_problem (rmd 3) (FQ g (pI (fun z M' => (¬ ((0 ≤ c ∧ c ≤ 3) ∧ 1 ≤ l ∧ l ≤ 400) ∧ M' = up M 468 0 1) ∨ ((((0 ≤ c ∧ c ≤ 3) ∧ 1 ≤ l ∧ l ≤ 400) ∧ M 468 9 = 5) ∧ M' = up M 468 0 2) ∨ ((((0 ≤ c ∧ c ≤ 3) ∧ 1 ≤ l ∧ l ≤ 400) ∧ M 468 9 < 5 ∧ z = M 468 9) ∧ M' = up (up (up (up M 468 0 0) 474 (M 468 9) c) 475 (M 468 9) l) 468 9 (M 468 9 + 1))))) 60 [(0, rv g 468), (1, iv c), (2, iv l)] [rv g 475] (up (up M 468 0 2) 474 (M 468 9) c)
          refine x_aload_n 0 dX9_problem_60 rfl rfl ?_
          refine x_geti (k := 9) (kI := 9) dX9_problem_61 fl9_124 k_468 rfl rfl (fun ⟨a47, a47'⟩ => ?_)
          have e48 : (up (up M 468 0 2) 474 (M 468 9) c) 468 9 = M 468 9 := (by simp (disch := omega) only [up_s, up_o, up_k])
          simp only [e48] at a47 a47' ⊢
          refine x_iload_n 2 dX9_problem_64 rfl rfl ?_
          refine x_iast dX9_problem_65 k46 (by omega) (by omega) (by decide) ⟨by omega, by omega⟩ ?_
          refine x_aload_n 0 dX9_problem_66 rfl rfl ?_
          refine x_dup dX9_problem_67 rfl ?_
          refine x_geti (k := 9) (kI := 9) dX9_problem_68 fl9_124 k_468 rfl rfl (fun ⟨a49, a49'⟩ => ?_)
          have e50 : (up (up (up M 468 0 2) 474 (M 468 9) c) 475 (M 468 9) l) 468 9 = M 468 9 := (by simp (disch := omega) only [up_s, up_o, up_k])
          simp only [e50] at a49 a49' ⊢
          refine x_iconst (1) dX9_problem_71 rfl ?_
          refine x_iadd dX9_problem_72 ?_
          refine x_puti (k := 9) (kI := 9) dX9_problem_73 fw9_124 k_468 rfl ⟨by omega, by omega⟩ rfl rfl rfl ?_
          refine x_aload_n 0 dX9_problem_76 rfl rfl ?_
          refine x_geti (k := 9) (kI := 9) dX9_problem_77 fl9_124 k_468 rfl rfl (fun ⟨a51, a51'⟩ => ?_)
          have e52 : (up (up (up (up M 468 0 2) 474 (M 468 9) c) 475 (M 468 9) l) 468 9 ((M 468 9) + 1)) 468 9 = (M 468 9) + 1 := (by simp (disch := omega) only [up_s, up_o, up_k])
          simp only [e52] at a51 a51' ⊢
          refine x_iconst (1) dX9_problem_80 rfl ?_
          refine x_isub dX9_problem_81 ?_
          refine x_iret dX9_problem_82 rfl rfl ?_
          exfalso; omega
        · refine x_iconst (0) dX9_problem_44 rfl ?_
          refine x_iret dX9_problem_45 rfl rfl ?_
          exact ⟨_, rfl, Or.inr (Or.inl ⟨by omega, rfl⟩)⟩
    · refine x_iconst (1) dX9_problem_21 rfl ?_
      refine x_goto (tgt := 38) dX9_problem_22 (by decide) ?_
      refine x_callVIP (as := [iv 1]) (rest := []) dX9_problem_38 vl9_114 k_468 (c_X9_fails g M 1 (by omega) (by omega)) rfl rfl (Nat.le_of_ble_eq_true rfl) ⟨Nat.le_of_ble_eq_true rfl, Nat.le_of_ble_eq_true rfl⟩ (fun z53 h54 => ?_)
      refine x_if_eq (tgt := 46) dX9_problem_41 (by decide) ⟨by omega, by omega⟩ (fun c56 => ?_) (fun c56 => ?_)
      · refine x_aload_n 0 dX9_problem_46 rfl rfl ?_
        refine x_getr (k := 10) (d := 6) dX9_problem_47 fl9_26 k_468 rfl (fun k57 => ?_)
        have k57 : isK 20 5 474 := k57
        show Ok g mX9_problem (rmd 3) (FQ g (pI (fun z M' => (¬ ((0 ≤ c ∧ c ≤ 3) ∧ 1 ≤ l ∧ l ≤ 400) ∧ M' = up M 468 0 1) ∨ ((((0 ≤ c ∧ c ≤ 3) ∧ 1 ≤ l ∧ l ≤ 400) ∧ M 468 9 = 5) ∧ M' = up M 468 0 2) ∨ ((((0 ≤ c ∧ c ≤ 3) ∧ 1 ≤ l ∧ l ≤ 400) ∧ M 468 9 < 5 ∧ z = M 468 9) ∧ M' = up (up (up (up M 468 0 0) 474 (M 468 9) c) 475 (M 468 9) l) 468 9 (M 468 9 + 1))))) 50 [(0, rv g 468), (1, iv c), (2, iv l)] [rv g 474] (up M 468 0 1)
        refine x_aload_n 0 dX9_problem_50 rfl rfl ?_
        refine x_geti (k := 9) (kI := 9) dX9_problem_51 fl9_124 k_468 rfl rfl (fun ⟨a58, a58'⟩ => ?_)
        have e59 : (up M 468 0 1) 468 9 = M 468 9 := (by simp (disch := omega) only [up_s, up_o, up_k])
        simp only [e59] at a58 a58' ⊢
        refine x_iload_n 1 dX9_problem_54 rfl rfl ?_
        refine x_iast dX9_problem_55 k57 (by omega) (by omega) (by decide) ⟨by omega, by omega⟩ ?_
        refine x_aload_n 0 dX9_problem_56 rfl rfl ?_
        refine x_getr (k := 11) (d := 7) dX9_problem_57 fl9_29 k_468 rfl (fun k60 => ?_)
        have k60 : isK 20 5 475 := k60
        show Ok g mX9_problem (rmd 3) (FQ g (pI (fun z M' => (¬ ((0 ≤ c ∧ c ≤ 3) ∧ 1 ≤ l ∧ l ≤ 400) ∧ M' = up M 468 0 1) ∨ ((((0 ≤ c ∧ c ≤ 3) ∧ 1 ≤ l ∧ l ≤ 400) ∧ M 468 9 = 5) ∧ M' = up M 468 0 2) ∨ ((((0 ≤ c ∧ c ≤ 3) ∧ 1 ≤ l ∧ l ≤ 400) ∧ M 468 9 < 5 ∧ z = M 468 9) ∧ M' = up (up (up (up M 468 0 0) 474 (M 468 9) c) 475 (M 468 9) l) 468 9 (M 468 9 + 1))))) 60 [(0, rv g 468), (1, iv c), (2, iv l)] [rv g 475] (up (up M 468 0 1) 474 (M 468 9) c)
        refine x_aload_n 0 dX9_problem_60 rfl rfl ?_
        refine x_geti (k := 9) (kI := 9) dX9_problem_61 fl9_124 k_468 rfl rfl (fun ⟨a61, a61'⟩ => ?_)
        have e62 : (up (up M 468 0 1) 474 (M 468 9) c) 468 9 = M 468 9 := (by simp (disch := omega) only [up_s, up_o, up_k])
        simp only [e62] at a61 a61' ⊢
        refine x_iload_n 2 dX9_problem_64 rfl rfl ?_
        refine x_iast dX9_problem_65 k60 (by omega) (by omega) (by decide) ⟨by omega, by omega⟩ ?_
        refine x_aload_n 0 dX9_problem_66 rfl rfl ?_
        refine x_dup dX9_problem_67 rfl ?_
        refine x_geti (k := 9) (kI := 9) dX9_problem_68 fl9_124 k_468 rfl rfl (fun ⟨a63, a63'⟩ => ?_)
        have e64 : (up (up (up M 468 0 1) 474 (M 468 9) c) 475 (M 468 9) l) 468 9 = M 468 9 := (by simp (disch := omega) only [up_s, up_o, up_k])
        simp only [e64] at a63 a63' ⊢
        refine x_iconst (1) dX9_problem_71 rfl ?_
        refine x_iadd dX9_problem_72 ?_
        refine x_puti (k := 9) (kI := 9) dX9_problem_73 fw9_124 k_468 rfl ⟨by omega, by omega⟩ rfl rfl rfl ?_
        refine x_aload_n 0 dX9_problem_76 rfl rfl ?_
        refine x_geti (k := 9) (kI := 9) dX9_problem_77 fl9_124 k_468 rfl rfl (fun ⟨a65, a65'⟩ => ?_)
        have e66 : (up (up (up (up M 468 0 1) 474 (M 468 9) c) 475 (M 468 9) l) 468 9 ((M 468 9) + 1)) 468 9 = (M 468 9) + 1 := (by simp (disch := omega) only [up_s, up_o, up_k])
        simp only [e66] at a65 a65' ⊢
        refine x_iconst (1) dX9_problem_80 rfl ?_
        refine x_isub dX9_problem_81 ?_
        refine x_iret dX9_problem_82 rfl rfl ?_
        exfalso; omega
      · refine x_iconst (0) dX9_problem_44 rfl ?_
        refine x_iret dX9_problem_45 rfl rfl ?_
        exact ⟨_, rfl, Or.inl ⟨by omega, rfl⟩⟩

set_option maxHeartbeats 600000 in
set_option maxRecDepth 100000 in
theorem c_X9_team (g : GG) (M : Mem)  (I : RB M) : Ct g yX9_team cX9_team 2 (some .int) 3 [rv g 468] M (pI (fun z M' => (M 468 17 = 8 ∧ M' = up M 468 0 1) ∨ (M 468 17 < 8 ∧ z = M 468 17 ∧ M' 468 0 = 0 ∧ M' 468 17 = M 468 17 + 1 ∧ (∀ k, 5 * M 468 17 ≤ k → k < 5 * M 468 17 + 5 → M' 493 k = 45) ∧ ∀ o k, ¬ (o = 493 ∧ 5 * M 468 17 ≤ k ∧ k < 5 * M 468 17 + 5) → ¬ (o = 468 ∧ (k = 0 ∨ k = 17)) → M' o k = M o k))) := by
  refine ct_of (by decide +kernel) (Nat.le_of_ble_eq_true rfl) ?_
  show Ok g mX9_team (rmd 3) (FQ g (pI (fun z M' => (M 468 17 = 8 ∧ M' = up M 468 0 1) ∨ (M 468 17 < 8 ∧ z = M 468 17 ∧ M' 468 0 = 0 ∧ M' 468 17 = M 468 17 + 1 ∧ (∀ k, 5 * M 468 17 ≤ k → k < 5 * M 468 17 + 5 → M' 493 k = 45) ∧ ∀ o k, ¬ (o = 493 ∧ 5 * M 468 17 ≤ k ∧ k < 5 * M 468 17 + 5) → ¬ (o = 468 ∧ (k = 0 ∨ k = 17)) → M' o k = M o k)))) 0 [(0, rv g 468)] [] M
  have i0 := I.rng
  have h_25 : ∀ (n_25 : Nat) (M1 : Mem) (i : Int), (0 ≤ i ∧ i ≤ 5 ∧ M 468 17 < 8) → (M1 468 0 = 0 ∧ M1 468 17 = M 468 17) → (∀ k, 5 * M 468 17 ≤ k → k < 5 * M 468 17 + i → M1 493 k = 45) → (∀ o k, ¬ (o = 493 ∧ 5 * M 468 17 ≤ k ∧ k < 5 * M 468 17 + 5) → ¬ (o = 468 ∧ (k = 0 ∨ k = 17)) → M1 o k = M o k) → (5 - i).toNat < n_25 → Ok g mX9_team (rmd 3) (FQ g (pI (fun z M' => (M 468 17 = 8 ∧ M' = up M 468 0 1) ∨ (M 468 17 < 8 ∧ z = M 468 17 ∧ M' 468 0 = 0 ∧ M' 468 17 = M 468 17 + 1 ∧ (∀ k, 5 * M 468 17 ≤ k → k < 5 * M 468 17 + 5 → M' 493 k = 45) ∧ ∀ o k, ¬ (o = 493 ∧ 5 * M 468 17 ≤ k ∧ k < 5 * M 468 17 + 5) → ¬ (o = 468 ∧ (k = 0 ∨ k = 17)) → M' o k = M o k)))) 25 [(0, rv g 468), (1, iv i)] [] M1 := by
    intro n_25
    induction n_25 with
    | zero => intro M1 i j0 j1 j2 j3 hn_25; exact absurd hn_25 (Nat.not_lt_zero _)
    | succ n_25 ih_25 =>
      intro M1 i j0 j1 j2 j3 hn_25
      refine x_iload_n 1 dX9_team_25 rfl rfl ?_
      refine x_iconst (5) dX9_team_26 rfl ?_
      refine x_icmp_ge (tgt := 51) dX9_team_27 (by decide) ⟨by omega, by omega⟩ ⟨by decide, by decide⟩ (fun c1 => ?_) (fun c1 => ?_)
      · refine x_aload_n 0 dX9_team_51 rfl rfl ?_
        refine x_dup dX9_team_52 rfl ?_
        refine x_geti (k := 17) (kI := 17) dX9_team_53 fl9_127 k_468 rfl rfl (fun ⟨a2, a2'⟩ => ?_)
        have e3 : M1 468 17 = M 468 17 := j1.2
        simp only [e3] at a2 a2' ⊢
        refine x_iconst (1) dX9_team_56 rfl ?_
        refine x_iadd dX9_team_57 ?_
        refine x_puti (k := 17) (kI := 17) dX9_team_58 fw9_127 k_468 rfl ⟨by omega, by omega⟩ rfl rfl rfl ?_
        refine x_aload_n 0 dX9_team_61 rfl rfl ?_
        refine x_geti (k := 17) (kI := 17) dX9_team_62 fl9_127 k_468 rfl rfl (fun ⟨a4, a4'⟩ => ?_)
        have e5 : (up M1 468 17 ((M 468 17) + 1)) 468 17 = (M 468 17) + 1 := (by simp (disch := omega) only [up_s, up_o, up_k])
        simp only [e5] at a4 a4' ⊢
        refine x_iconst (1) dX9_team_65 rfl ?_
        refine x_isub dX9_team_66 ?_
        refine x_iret dX9_team_67 rfl rfl ?_
        refine ⟨_, rfl, Or.inr ⟨by omega, by omega, (up_k (by omega)).trans j1.1, up_s _ _ _ _, fun k k0 k1 => (up_o (by omega)).trans (j2 k k0 (by omega)), fun o k a1 a2 => (up_n (by omega)).trans (j3 o k a1 a2)⟩⟩
      · refine x_aload_n 0 dX9_team_30 rfl rfl ?_
        refine x_getr (k := 31) (d := 25) dX9_team_31 fl9_83 k_468 rfl (fun k6 => ?_)
        have k6 : isK 21 40 493 := k6
        show Ok g mX9_team (rmd 3) (FQ g (pI (fun z M' => (M 468 17 = 8 ∧ M' = up M 468 0 1) ∨ (M 468 17 < 8 ∧ z = M 468 17 ∧ M' 468 0 = 0 ∧ M' 468 17 = M 468 17 + 1 ∧ (∀ k, 5 * M 468 17 ≤ k → k < 5 * M 468 17 + 5 → M' 493 k = 45) ∧ ∀ o k, ¬ (o = 493 ∧ 5 * M 468 17 ≤ k ∧ k < 5 * M 468 17 + 5) → ¬ (o = 468 ∧ (k = 0 ∨ k = 17)) → M' o k = M o k)))) 34 [(0, rv g 468), (1, iv i)] [rv g 493] M1
        refine x_iconst (5) dX9_team_34 rfl ?_
        refine x_aload_n 0 dX9_team_35 rfl rfl ?_
        refine x_geti (k := 17) (kI := 17) dX9_team_36 fl9_127 k_468 rfl rfl (fun ⟨a7, a7'⟩ => ?_)
        have e8 : M1 468 17 = M 468 17 := j1.2
        simp only [e8] at a7 a7' ⊢
        refine x_imul dX9_team_39 ?_
        refine x_iload_n 1 dX9_team_40 rfl rfl ?_
        refine x_iadd dX9_team_41 ?_
        refine x_bipush (45) dX9_team_42 rfl ?_
        refine x_cast dX9_team_44 k6 (by omega) (by omega) (by decide) ⟨by decide, by decide⟩ (by omega) (by omega) ?_
        refine x_iinc (z := i) (lv' := [(1, iv (i + 1)), (0, rv g 468)]) 1 dX9_team_45 rfl (Nat.le_of_ble_eq_true rfl) rfl ?_
        refine x_goto (tgt := 25) dX9_team_48 (by decide) ?_
        refine x_sub [1, 0] rfl ?_
        exact ih_25 _ _ (by omega) (by refine ⟨(up_o (by omega)).trans j1.1, (up_o (by omega)).trans j1.2⟩) (by intro k k0 k1; by_cases e : k = 5 * M 468 17 + i; rw [e, up_s]; rw [up_k e]; exact j2 k k0 (by omega)) (by intro o k a1 a2; rw [up_n (by omega)]; exact j3 o k a1 a2) (by omega)
  refine x_aload_n 0 dX9_team_0 rfl rfl ?_
  refine x_aload_n 0 dX9_team_1 rfl rfl ?_
  refine x_geti (k := 17) (kI := 17) dX9_team_2 fl9_127 k_468 rfl rfl (fun ⟨a9, a9'⟩ => ?_)
  refine x_bipush (8) dX9_team_5 rfl ?_
  refine x_icmp_ne (tgt := 14) dX9_team_7 (by decide) ⟨by omega, by omega⟩ ⟨by decide, by decide⟩ (fun c10 => ?_) (fun c10 => ?_)
  · refine x_iconst (0) dX9_team_14 rfl ?_
    refine x_callVIP (as := [iv 0]) (rest := []) dX9_team_15 vl9_114 k_468 (c_X9_fails g M 0 (by omega) (by omega)) rfl rfl (Nat.le_of_ble_eq_true rfl) ⟨Nat.le_of_ble_eq_true rfl, Nat.le_of_ble_eq_true rfl⟩ (fun z11 h12 => ?_)
    refine x_if_eq (tgt := 23) dX9_team_18 (by decide) ⟨by omega, by omega⟩ (fun c14 => ?_) (fun c14 => ?_)
    · refine x_iconst (0) dX9_team_23 rfl ?_
      refine x_istore_n (lv' := [(1, iv 0), (0, rv g 468)]) dX9_team_24 rfl (Nat.le_of_ble_eq_true rfl) rfl ?_
      refine x_sub [1, 0] rfl ?_
      exact h_25 _ _ _ (by omega) (by refine ⟨up_s _ _ _ _, up_n (by omega)⟩) (by intro k _ _; omega) (by intro o k a1 a2; exact up_n (by omega)) (Nat.lt_succ_self _)
    · refine x_iconst (0) dX9_team_21 rfl ?_
      refine x_iret dX9_team_22 rfl rfl ?_
      exfalso; omega
  · refine x_iconst (1) dX9_team_10 rfl ?_
    refine x_goto (tgt := 15) dX9_team_11 (by decide) ?_
    refine x_callVIP (as := [iv 1]) (rest := []) dX9_team_15 vl9_114 k_468 (c_X9_fails g M 1 (by omega) (by omega)) rfl rfl (Nat.le_of_ble_eq_true rfl) ⟨Nat.le_of_ble_eq_true rfl, Nat.le_of_ble_eq_true rfl⟩ (fun z15 h16 => ?_)
    refine x_if_eq (tgt := 23) dX9_team_18 (by decide) ⟨by omega, by omega⟩ (fun c18 => ?_) (fun c18 => ?_)
    · refine x_iconst (0) dX9_team_23 rfl ?_
      refine x_istore_n (lv' := [(1, iv 0), (0, rv g 468)]) dX9_team_24 rfl (Nat.le_of_ble_eq_true rfl) rfl ?_
      refine x_sub [1, 0] rfl ?_
      exact h_25 _ _ _ (by exfalso; omega) (by exfalso; omega) (by exfalso; omega) (by exfalso; omega) (Nat.lt_succ_self _)
    · refine x_iconst (0) dX9_team_21 rfl ?_
      refine x_iret dX9_team_22 rfl rfl ?_
      exact ⟨_, rfl, Or.inl ⟨by omega, rfl⟩⟩
