set_option maxHeartbeats 600000 in
set_option maxRecDepth 100000 in
theorem c_X3_hasRoom (g : GG) (M : Mem) (o b : Int) (ko : isK 3 4 o) (b0 : b = 0 ∨ b = 1) : Ct g yX3_hasRoom cX3_hasRoom 2 (some .boolean) 0 [rv g o, iv b] M (pIP (fun z => (z = 1 ∧ ((b = 1 ∧ M o 3 < 6) ∨ (b = 0 ∧ M o 2 < 4))) ∨ (z = 0 ∧ ((b = 1 ∧ 6 ≤ M o 3) ∨ (b = 0 ∧ 4 ≤ M o 2)))) M) := by
  refine ct_of (by decide +kernel) (Nat.le_of_ble_eq_true rfl) ?_
  show Ok g mX3_hasRoom (rmd 0) (FQ g (pIP (fun z => (z = 1 ∧ ((b = 1 ∧ M o 3 < 6) ∨ (b = 0 ∧ M o 2 < 4))) ∨ (z = 0 ∧ ((b = 1 ∧ 6 ≤ M o 3) ∨ (b = 0 ∧ 4 ≤ M o 2)))) M)) 0 [(0, rv g o), (1, iv b)] [] M
  refine x_iload_n 1 dX3_hasRoom_0 rfl rfl ?_
  refine x_if_eq (tgt := 21) dX3_hasRoom_1 (by decide) ⟨by omega, by omega⟩ (fun c1 => ?_) (fun c1 => ?_)
  · refine x_aload_n 0 dX3_hasRoom_21 rfl rfl ?_
    refine x_geti (k := 2) (kI := 2) dX3_hasRoom_22 fl3_18 ko rfl rfl (fun ⟨a2, a2'⟩ => ?_)
    refine x_iconst (4) dX3_hasRoom_25 rfl ?_
    refine x_icmp_ge (tgt := 33) dX3_hasRoom_26 (by decide) ⟨by omega, by omega⟩ ⟨by decide, by decide⟩ (fun c3 => ?_) (fun c3 => ?_)
    · refine x_iconst (0) dX3_hasRoom_33 rfl ?_
      refine x_iret dX3_hasRoom_34 rfl (iZ_bool (by omega)) ?_
      exact ⟨_, rfl, rfl, by omega⟩
    · refine x_iconst (1) dX3_hasRoom_29 rfl ?_
      refine x_goto (tgt := 34) dX3_hasRoom_30 (by decide) ?_
      refine x_iret dX3_hasRoom_34 rfl (iZ_bool (by omega)) ?_
      exact ⟨_, rfl, rfl, by omega⟩
  · refine x_aload_n 0 dX3_hasRoom_4 rfl rfl ?_
    refine x_geti (k := 3) (kI := 3) dX3_hasRoom_5 fl3_22 ko rfl rfl (fun ⟨a4, a4'⟩ => ?_)
    refine x_bipush (6) dX3_hasRoom_8 rfl ?_
    refine x_icmp_ge (tgt := 17) dX3_hasRoom_10 (by decide) ⟨by omega, by omega⟩ ⟨by decide, by decide⟩ (fun c5 => ?_) (fun c5 => ?_)
    · refine x_iconst (0) dX3_hasRoom_17 rfl ?_
      refine x_goto (tgt := 34) dX3_hasRoom_18 (by decide) ?_
      refine x_iret dX3_hasRoom_34 rfl (iZ_bool (by omega)) ?_
      exact ⟨_, rfl, rfl, by omega⟩
    · refine x_iconst (1) dX3_hasRoom_13 rfl ?_
      refine x_goto (tgt := 34) dX3_hasRoom_14 (by decide) ?_
      refine x_iret dX3_hasRoom_34 rfl (iZ_bool (by omega)) ?_
      exact ⟨_, rfl, rfl, by omega⟩

set_option maxHeartbeats 600000 in
set_option maxRecDepth 100000 in
theorem c_X3_append (g : GG) (M : Mem) (o z b : Int) (ko : isK 3 4 o) (hz : rg z) (hb : (b = 1 ∧ 0 ≤ M o 3 ∧ M o 3 < 6) ∨ (b = 0 ∧ 0 ≤ M o 2 ∧ M o 2 < 4)) : Ct g yX3_append cX3_append 3 (some .int) 1 [rv g o, iv z, iv b] M (pI (fun v M' => (b = 1 ∧ v = M o 3 + 1 ∧ M' = up (up M (o + 2) (M o 3) z) o 3 (M o 3 + 1)) ∨ (b = 0 ∧ v = M o 2 + 1 ∧ M' = up (up M (o + 1) (M o 2) z) o 2 (M o 2 + 1)))) := by
  refine ct_of (by decide +kernel) (Nat.le_of_ble_eq_true rfl) ?_
  show Ok g mX3_append (rmd 1) (FQ g (pI (fun v M' => (b = 1 ∧ v = M o 3 + 1 ∧ M' = up (up M (o + 2) (M o 3) z) o 3 (M o 3 + 1)) ∨ (b = 0 ∧ v = M o 2 + 1 ∧ M' = up (up M (o + 1) (M o 2) z) o 2 (M o 2 + 1))))) 0 [(0, rv g o), (1, iv z), (2, iv b)] [] M
  have hz1 := hz.1
  have hz2 := hz.2
  refine x_aload_n 0 dX3_append_0 rfl rfl ?_
  refine x_iload_n 2 dX3_append_1 rfl rfl ?_
  refine x_callVIP (as := [iv b]) (rest := []) dX3_append_2 vl3_25 ko (c_X3_hasRoom g M o b ko (by omega)) rfl rfl (Nat.le_of_ble_eq_true rfl) ⟨Nat.le_of_ble_eq_true rfl, Nat.le_of_ble_eq_true rfl⟩ (fun z1 h2 => ?_)
  refine x_if_ne (tgt := 10) dX3_append_5 (by decide) ⟨by omega, by omega⟩ (fun c4 => ?_) (fun c4 => ?_)
  · refine x_iload_n 2 dX3_append_10 rfl rfl ?_
    refine x_if_eq (tgt := 39) dX3_append_11 (by decide) ⟨by omega, by omega⟩ (fun c5 => ?_) (fun c5 => ?_)
    · refine x_aload_n 0 dX3_append_39 rfl rfl ?_
      refine x_getr (k := 0) (d := 1) dX3_append_40 fl3_9 ko rfl (fun k6 => ?_)
      refine x_aload_n 0 dX3_append_43 rfl rfl ?_
      refine x_geti (k := 2) (kI := 2) dX3_append_44 fl3_18 ko rfl rfl (fun ⟨a7, a7'⟩ => ?_)
      refine x_iload_n 1 dX3_append_47 rfl rfl ?_
      refine x_iast dX3_append_48 k6 (by omega) (by omega) (by decide) ⟨by omega, by omega⟩ ?_
      refine x_aload_n 0 dX3_append_49 rfl rfl ?_
      refine x_dup dX3_append_50 rfl ?_
      refine x_geti (k := 2) (kI := 2) dX3_append_51 fl3_18 ko rfl rfl (fun ⟨a8, a8'⟩ => ?_)
      have e9 : (up M (o + 1) (M o 2) z) o 2 = M o 2 := (by simp (disch := omega) only [up_s, up_o, up_k])
      simp only [e9] at a8 a8' ⊢
      refine x_iconst (1) dX3_append_54 rfl ?_
      refine x_iadd dX3_append_55 ?_
      refine x_puti (k := 2) (kI := 2) dX3_append_56 fw3_18 ko rfl ⟨by omega, by omega⟩ rfl rfl rfl ?_
      refine x_aload_n 0 dX3_append_59 rfl rfl ?_
      refine x_geti (k := 2) (kI := 2) dX3_append_60 fl3_18 ko rfl rfl (fun ⟨a10, a10'⟩ => ?_)
      have e11 : (up (up M (o + 1) (M o 2) z) o 2 ((M o 2) + 1)) o 2 = (M o 2) + 1 := (by simp (disch := omega) only [up_s, up_o, up_k])
      simp only [e11] at a10 a10' ⊢
      refine x_iret dX3_append_63 rfl rfl ?_
      exact ⟨_, rfl, Or.inr ⟨by omega, rfl, rfl⟩⟩
    · refine x_aload_n 0 dX3_append_14 rfl rfl ?_
      refine x_getr (k := 1) (d := 2) dX3_append_15 fl3_15 ko rfl (fun k12 => ?_)
      refine x_aload_n 0 dX3_append_18 rfl rfl ?_
      refine x_geti (k := 3) (kI := 3) dX3_append_19 fl3_22 ko rfl rfl (fun ⟨a13, a13'⟩ => ?_)
      refine x_iload_n 1 dX3_append_22 rfl rfl ?_
      refine x_iast dX3_append_23 k12 (by omega) (by omega) (by decide) ⟨by omega, by omega⟩ ?_
      refine x_aload_n 0 dX3_append_24 rfl rfl ?_
      refine x_dup dX3_append_25 rfl ?_
      refine x_geti (k := 3) (kI := 3) dX3_append_26 fl3_22 ko rfl rfl (fun ⟨a14, a14'⟩ => ?_)
      have e15 : (up M (o + 2) (M o 3) z) o 3 = M o 3 := (by simp (disch := omega) only [up_s, up_o, up_k])
      simp only [e15] at a14 a14' ⊢
      refine x_iconst (1) dX3_append_29 rfl ?_
      refine x_iadd dX3_append_30 ?_
      refine x_puti (k := 3) (kI := 3) dX3_append_31 fw3_22 ko rfl ⟨by omega, by omega⟩ rfl rfl rfl ?_
      refine x_aload_n 0 dX3_append_34 rfl rfl ?_
      refine x_geti (k := 3) (kI := 3) dX3_append_35 fl3_22 ko rfl rfl (fun ⟨a16, a16'⟩ => ?_)
      have e17 : (up (up M (o + 2) (M o 3) z) o 3 ((M o 3) + 1)) o 3 = (M o 3) + 1 := (by simp (disch := omega) only [up_s, up_o, up_k])
      simp only [e17] at a16 a16' ⊢
      refine x_iret dX3_append_38 rfl rfl ?_
      exact ⟨_, rfl, Or.inl ⟨by omega, rfl, rfl⟩⟩
  · refine x_iconst (-1) dX3_append_8 rfl ?_
    refine x_iret dX3_append_9 rfl rfl ?_
    exfalso; omega

set_option maxHeartbeats 600000 in
set_option maxRecDepth 100000 in
theorem c_X3_clear (g : GG) (M : Mem) (o : Int) (ko : isK 3 4 o) : Ct g yX3_clear cX3_clear 2 (some .int) 0 [rv g o] M (pIP (fun v => v = M o 2 + M o 3) (up (up M o 2 0) o 3 0)) := by
  refine ct_of (by decide +kernel) (Nat.le_of_ble_eq_true rfl) ?_
  show Ok g mX3_clear (rmd 0) (FQ g (pIP (fun v => v = M o 2 + M o 3) (up (up M o 2 0) o 3 0))) 0 [(0, rv g o)] [] M
  refine x_aload_n 0 dX3_clear_0 rfl rfl ?_
  refine x_geti (k := 2) (kI := 2) dX3_clear_1 fl3_18 ko rfl rfl (fun ⟨a1, a1'⟩ => ?_)
  refine x_aload_n 0 dX3_clear_4 rfl rfl ?_
  refine x_geti (k := 3) (kI := 3) dX3_clear_5 fl3_22 ko rfl rfl (fun ⟨a2, a2'⟩ => ?_)
  refine x_iadd dX3_clear_8 ?_
  refine x_istore_n (lv' := [(1, iv ((M o 2) + (M o 3))), (0, rv g o)]) dX3_clear_9 rfl (Nat.le_of_ble_eq_true rfl) rfl ?_
  refine x_aload_n 1 dX3_clear_10 rfl rfl ?_
  refine x_iconst (0) dX3_clear_11 rfl ?_
  refine x_puti (k := 2) (kI := 2) dX3_clear_12 fw3_18 ko rfl ⟨by decide, by decide⟩ rfl rfl rfl ?_
  refine x_aload_n 1 dX3_clear_15 rfl rfl ?_
  refine x_iconst (0) dX3_clear_16 rfl ?_
  refine x_puti (k := 3) (kI := 3) dX3_clear_17 fw3_22 ko rfl ⟨by decide, by decide⟩ rfl rfl rfl ?_
  refine x_iload_n 0 dX3_clear_20 rfl rfl ?_
  refine x_iret dX3_clear_21 rfl rfl ?_
  exact ⟨_, rfl, rfl, by omega⟩

set_option maxHeartbeats 600000 in
set_option maxRecDepth 100000 in
theorem c_X3_copyFrom (g : GG) (M : Mem) (o q : Int) (ko : isK 3 4 o) (kq : isK 3 4 q) (hd : q + 2 < o ∨ o + 2 < q) (hq : 0 ≤ M q 2 ∧ M q 2 ≤ 4 ∧ 0 ≤ M q 3 ∧ M q 3 ≤ 6) : Ct g yX3_copyFrom cX3_copyFrom 3 none 2 [rv g o, rv g q] M (pV (fun M' => (∀ a j, ¬ (a = o ∨ a = o + 1 ∨ a = o + 2) → M' a j = M a j) ∧ M' o 2 = M q 2 ∧ M' o 3 = M q 3 ∧ (∀ j, 0 ≤ j → j < M q 2 → M' (o + 1) j = M (q + 1) j) ∧ (∀ j, 0 ≤ j → j < M q 3 → M' (o + 2) j = M (q + 2) j))) := by
  refine ct_of (by decide +kernel) (Nat.le_of_ble_eq_true rfl) ?_
  show Ok g mX3_copyFrom (rmd 2) (FQ g (pV (fun M' => (∀ a j, ¬ (a = o ∨ a = o + 1 ∨ a = o + 2) → M' a j = M a j) ∧ M' o 2 = M q 2 ∧ M' o 3 = M q 3 ∧ (∀ j, 0 ≤ j → j < M q 2 → M' (o + 1) j = M (q + 1) j) ∧ (∀ j, 0 ≤ j → j < M q 3 → M' (o + 2) j = M (q + 2) j)))) 0 [(0, rv g o), (1, rv g q)] [] M
  have h_35 : ∀ (n_35 : Nat) (M2 : Mem) (k : Int), (∀ a j, ¬ (a = o ∨ a = o + 1 ∨ a = o + 2) → M2 a j = M a j) → (M2 o 2 = M q 2) → (M2 o 3 = k) → (∀ j, 0 ≤ j → j < M q 2 → M2 (o + 1) j = M (q + 1) j) → (∀ j, 0 ≤ j → j < k → M2 (o + 2) j = M (q + 2) j) → (0 ≤ k ∧ k ≤ M q 3) → (M q 3 - k).toNat < n_35 → Ok g mX3_copyFrom (rmd 2) (FQ g (pV (fun M' => (∀ a j, ¬ (a = o ∨ a = o + 1 ∨ a = o + 2) → M' a j = M a j) ∧ M' o 2 = M q 2 ∧ M' o 3 = M q 3 ∧ (∀ j, 0 ≤ j → j < M q 2 → M' (o + 1) j = M (q + 1) j) ∧ (∀ j, 0 ≤ j → j < M q 3 → M' (o + 2) j = M (q + 2) j)))) 35 [(0, rv g o), (1, rv g q), (2, iv k)] [] M2 := by
    intro n_35
    induction n_35 with
    | zero => intro M2 k p0 p1 p2 p3 p5 p4 hn_35; exact absurd hn_35 (Nat.not_lt_zero _)
    | succ n_35 ih_35 =>
      intro M2 k p0 p1 p2 p3 p5 p4 hn_35
      refine x_iload_n 2 dX3_copyFrom_35 rfl rfl ?_
      refine x_aload_n 1 dX3_copyFrom_36 rfl rfl ?_
      refine x_geti (k := 3) (kI := 3) dX3_copyFrom_37 fl3_22 kq rfl rfl (fun ⟨a1, a1'⟩ => ?_)
      have e2 : M2 q 3 = M q 3 := (p0 _ _ (by omega))
      simp only [e2] at a1 a1' ⊢
      refine x_icmp_ge (tgt := 61) dX3_copyFrom_40 (by decide) ⟨by omega, by omega⟩ ⟨by omega, by omega⟩ (fun c3 => ?_) (fun c3 => ?_)
      · refine x_vret dX3_copyFrom_61 rfl ?_
        exact ⟨rfl, p0, p1, by omega, p3, fun j j0 j1 => p5 j j0 (by omega)⟩
      · refine x_aload_n 0 dX3_copyFrom_43 rfl rfl ?_
        refine x_aload_n 1 dX3_copyFrom_44 rfl rfl ?_
        refine x_getr (k := 1) (d := 2) dX3_copyFrom_45 fl3_15 kq rfl (fun k4 => ?_)
        refine x_iload_n 2 dX3_copyFrom_48 rfl rfl ?_
        refine x_iald dX3_copyFrom_49 k4 (by omega) (by omega) (by decide) (fun ⟨a5, a5'⟩ => ?_)
        have e6 : M2 (q + 2) k = M (q + 2) k := (p0 _ _ (by omega))
        simp only [e6] at a5 a5' ⊢
        refine x_iconst (1) dX3_copyFrom_50 rfl ?_
        refine x_callVI (as := [iv (M (q + 2) k), iv 1]) (rest := []) dX3_copyFrom_51 vl3_33 ko (c_X3_append g M2 o (M (q + 2) k) 1 ko ⟨by omega, by omega⟩ (by omega)) rfl rfl (Nat.le_of_ble_eq_true rfl) ⟨Nat.le_of_ble_eq_true rfl, Nat.le_of_ble_eq_true rfl⟩ (fun z7 M9 h8 => ?_)
        obtain ⟨r1, r2, r3⟩ := h8.resolve_right (by omega)
        refine x_pop dX3_copyFrom_54 rfl ?_
        refine x_iinc (z := k) (lv' := [(2, iv (k + 1)), (0, rv g o), (1, rv g q)]) 2 dX3_copyFrom_55 rfl (Nat.le_of_ble_eq_true rfl) rfl ?_
        refine x_goto (tgt := 35) dX3_copyFrom_58 (by decide) ?_
        refine x_sub [1, 2, 0] rfl ?_
        exact ih_35 _ _ (by rw [r3]; intro a j h; simp (disch := omega) only [up_o]; exact p0 a j h) (by rw [r3]; simp (disch := omega) only [up_o, up_k]; exact p1) (by rw [r3, up_s, p2]) (by rw [r3]; intro j j0 j1; simp (disch := omega) only [up_o]; exact p3 j j0 j1) (by rw [r3, p2]; refine ext_lt (fun j j0 j1 => ?_) ?_; simp (disch := omega) only [up_o, up_k]; exact p5 j j0 j1; simp (disch := omega) only [up_o, up_s]) (by omega) (by omega)
  have h_7 : ∀ (n_7 : Nat) (M1 : Mem) (k : Int), (∀ a j, ¬ (a = o ∨ a = o + 1 ∨ a = o + 2) → M1 a j = M a j) → (M1 o 2 = k) → (M1 o 3 = 0) → (∀ j, 0 ≤ j → j < k → M1 (o + 1) j = M (q + 1) j) → (0 ≤ k ∧ k ≤ M q 2) → (M q 2 - k).toNat < n_7 → Ok g mX3_copyFrom (rmd 2) (FQ g (pV (fun M' => (∀ a j, ¬ (a = o ∨ a = o + 1 ∨ a = o + 2) → M' a j = M a j) ∧ M' o 2 = M q 2 ∧ M' o 3 = M q 3 ∧ (∀ j, 0 ≤ j → j < M q 2 → M' (o + 1) j = M (q + 1) j) ∧ (∀ j, 0 ≤ j → j < M q 3 → M' (o + 2) j = M (q + 2) j)))) 7 [(0, rv g o), (1, rv g q), (2, iv k)] [] M1 := by
    intro n_7
    induction n_7 with
    | zero => intro M1 k p0 p1 p2 p3 p4 hn_7; exact absurd hn_7 (Nat.not_lt_zero _)
    | succ n_7 ih_7 =>
      intro M1 k p0 p1 p2 p3 p4 hn_7
      refine x_iload_n 2 dX3_copyFrom_7 rfl rfl ?_
      refine x_aload_n 1 dX3_copyFrom_8 rfl rfl ?_
      refine x_geti (k := 2) (kI := 2) dX3_copyFrom_9 fl3_18 kq rfl rfl (fun ⟨a10, a10'⟩ => ?_)
      have e11 : M1 q 2 = M q 2 := (p0 _ _ (by omega))
      simp only [e11] at a10 a10' ⊢
      refine x_icmp_ge (tgt := 33) dX3_copyFrom_12 (by decide) ⟨by omega, by omega⟩ ⟨by omega, by omega⟩ (fun c12 => ?_) (fun c12 => ?_)
      · refine x_iconst (0) dX3_copyFrom_33 rfl ?_
        refine x_istore_n (lv' := [(2, iv 0), (0, rv g o), (1, rv g q)]) dX3_copyFrom_34 rfl (Nat.le_of_ble_eq_true rfl) rfl ?_
        refine x_sub [1, 2, 0] rfl ?_
        exact h_35 _ _ _ (by exact p0) (by omega) (by omega) (by exact fun j j0 j1 => p3 j j0 (by omega)) (by intro j _ _; omega) (by omega) (Nat.lt_succ_self _)
      · refine x_aload_n 0 dX3_copyFrom_15 rfl rfl ?_
        refine x_aload_n 1 dX3_copyFrom_16 rfl rfl ?_
        refine x_getr (k := 0) (d := 1) dX3_copyFrom_17 fl3_9 kq rfl (fun k13 => ?_)
        refine x_iload_n 2 dX3_copyFrom_20 rfl rfl ?_
        refine x_iald dX3_copyFrom_21 k13 (by omega) (by omega) (by decide) (fun ⟨a14, a14'⟩ => ?_)
        have e15 : M1 (q + 1) k = M (q + 1) k := (p0 _ _ (by omega))
        simp only [e15] at a14 a14' ⊢
        refine x_iconst (0) dX3_copyFrom_22 rfl ?_
        refine x_callVI (as := [iv (M (q + 1) k), iv 0]) (rest := []) dX3_copyFrom_23 vl3_33 ko (c_X3_append g M1 o (M (q + 1) k) 0 ko ⟨by omega, by omega⟩ (by omega)) rfl rfl (Nat.le_of_ble_eq_true rfl) ⟨Nat.le_of_ble_eq_true rfl, Nat.le_of_ble_eq_true rfl⟩ (fun z16 M18 h17 => ?_)
        obtain ⟨r1, r2, r3⟩ := h17.resolve_left (by omega)
        refine x_pop dX3_copyFrom_26 rfl ?_
        refine x_iinc (z := k) (lv' := [(2, iv (k + 1)), (0, rv g o), (1, rv g q)]) 2 dX3_copyFrom_27 rfl (Nat.le_of_ble_eq_true rfl) rfl ?_
        refine x_goto (tgt := 7) dX3_copyFrom_30 (by decide) ?_
        refine x_sub [1, 2, 0] rfl ?_
        exact ih_7 _ _ (by rw [r3]; intro a j h; simp (disch := omega) only [up_o]; exact p0 a j h) (by rw [r3, up_s, p1]) (by rw [r3]; simp (disch := omega) only [up_o, up_k]; exact p2) (by rw [r3, p1]; refine ext_lt (fun j j0 j1 => ?_) ?_; simp (disch := omega) only [up_o, up_k]; exact p3 j j0 j1; simp (disch := omega) only [up_o, up_s]) (by omega) (by omega)
  refine x_aload_n 0 dX3_copyFrom_0 rfl rfl ?_
  refine x_callVIP (as := []) (rest := []) dX3_copyFrom_1 vl3_29 ko (c_X3_clear g M o ko) rfl rfl (Nat.le_of_ble_eq_true rfl) ⟨Nat.le_of_ble_eq_true rfl, Nat.le_of_ble_eq_true rfl⟩ (fun z19 h20 => ?_)
  refine x_pop dX3_copyFrom_4 rfl ?_
  refine x_iconst (0) dX3_copyFrom_5 rfl ?_
  refine x_istore_n (lv' := [(2, iv 0), (0, rv g o), (1, rv g q)]) dX3_copyFrom_6 rfl (Nat.le_of_ble_eq_true rfl) rfl ?_
  refine x_sub [1, 2, 0] rfl ?_
  exact h_7 _ _ _ (by intro a j h; simp (disch := omega) only [up_o]) (by simp (disch := omega) only [up_k, up_s]) (by rw [up_s]) (by intro j _ _; omega) (by omega) (Nat.lt_succ_self _)

set_option maxHeartbeats 600000 in
set_option maxRecDepth 100000 in
theorem c_X3_isExpected (g : GG) (M : Mem) (o n : Int) (ko : isK 3 4 o) (n0 : 0 ≤ n) (n1 : n ≤ 6) (e0 : 0 ≤ M o 3) (e1 : M o 3 ≤ 6) : Ct g yX3_isExpected cX3_isExpected 4 (some .boolean) 0 [rv g o, rv g 12, iv n] M (pIP (fun z => (z = 1 ∧ (n = M o 3 ∧ ∀ k, 0 ≤ k → k < n → M 12 k = M (o + 2) k)) ∨ (z = 0 ∧ ¬ (n = M o 3 ∧ ∀ k, 0 ≤ k → k < n → M 12 k = M (o + 2) k))) M) := by
  refine ct_of (by decide +kernel) (Nat.le_of_ble_eq_true rfl) ?_
  show Ok g mX3_isExpected (rmd 0) (FQ g (pIP (fun z => (z = 1 ∧ (n = M o 3 ∧ ∀ k, 0 ≤ k → k < n → M 12 k = M (o + 2) k)) ∨ (z = 0 ∧ ¬ (n = M o 3 ∧ ∀ k, 0 ≤ k → k < n → M 12 k = M (o + 2) k))) M)) 0 [(0, rv g o), (1, rv g 12), (2, iv n)] [] M
  have h_12 : ∀ (n_12 : Nat) (k : Int), (0 ≤ k ∧ k ≤ n ∧ n = M o 3) → (∀ i, 0 ≤ i → i < k → M 12 i = M (o + 2) i) → (n - k).toNat < n_12 → Ok g mX3_isExpected (rmd 0) (FQ g (pIP (fun z => (z = 1 ∧ (n = M o 3 ∧ ∀ k, 0 ≤ k → k < n → M 12 k = M (o + 2) k)) ∨ (z = 0 ∧ ¬ (n = M o 3 ∧ ∀ k, 0 ≤ k → k < n → M 12 k = M (o + 2) k))) M)) 12 [(0, rv g o), (1, rv g 12), (2, iv n), (3, iv k)] [] M := by
    intro n_12
    induction n_12 with
    | zero => intro k j0 j1 hn_12; exact absurd hn_12 (Nat.not_lt_zero _)
    | succ n_12 ih_12 =>
      intro k j0 j1 hn_12
      refine x_iload_n 3 dX3_isExpected_12 rfl rfl ?_
      refine x_aload_n 0 dX3_isExpected_13 rfl rfl ?_
      refine x_geti (k := 3) (kI := 3) dX3_isExpected_14 fl3_22 ko rfl rfl (fun ⟨a1, a1'⟩ => ?_)
      refine x_icmp_ge (tgt := 40) dX3_isExpected_17 (by decide) ⟨by omega, by omega⟩ ⟨by omega, by omega⟩ (fun c2 => ?_) (fun c2 => ?_)
      · refine x_iconst (1) dX3_isExpected_40 rfl ?_
        refine x_iret dX3_isExpected_41 rfl (iZ_bool (by omega)) ?_
        exact ⟨_, rfl, rfl, Or.inl ⟨rfl, by omega, fun i i0 i1 => j1 i i0 (by omega)⟩⟩
      · refine x_aload_n 1 dX3_isExpected_20 rfl rfl ?_
        refine x_iload_n 3 dX3_isExpected_21 rfl rfl ?_
        refine x_iald dX3_isExpected_22 k_12 (by omega) (by omega) (by decide) (fun ⟨a3, a3'⟩ => ?_)
        refine x_aload_n 0 dX3_isExpected_23 rfl rfl ?_
        refine x_getr (k := 1) (d := 2) dX3_isExpected_24 fl3_15 ko rfl (fun k4 => ?_)
        refine x_iload_n 3 dX3_isExpected_27 rfl rfl ?_
        refine x_iald dX3_isExpected_28 k4 (by omega) (by omega) (by decide) (fun ⟨a5, a5'⟩ => ?_)
        refine x_icmp_eq (tgt := 34) dX3_isExpected_29 (by decide) ⟨by omega, by omega⟩ ⟨by omega, by omega⟩ (fun c6 => ?_) (fun c6 => ?_)
        · refine x_iinc (z := k) (lv' := [(3, iv (k + 1)), (0, rv g o), (1, rv g 12), (2, iv n)]) 3 dX3_isExpected_34 rfl (Nat.le_of_ble_eq_true rfl) rfl ?_
          refine x_goto (tgt := 12) dX3_isExpected_37 (by decide) ?_
          refine x_sub [1, 2, 3, 0] rfl ?_
          exact ih_12 _ (by omega) (by exact ext_lt j1 (by omega)) (by omega)
        · refine x_iconst (0) dX3_isExpected_32 rfl ?_
          refine x_iret dX3_isExpected_33 rfl (iZ_bool (by omega)) ?_
          exact ⟨_, rfl, rfl, Or.inr ⟨rfl, fun e => by have := e.2 k (by omega) (by omega); omega⟩⟩
  refine x_iload_n 2 dX3_isExpected_0 rfl rfl ?_
  refine x_aload_n 0 dX3_isExpected_1 rfl rfl ?_
  refine x_geti (k := 3) (kI := 3) dX3_isExpected_2 fl3_22 ko rfl rfl (fun ⟨a7, a7'⟩ => ?_)
  refine x_icmp_eq (tgt := 10) dX3_isExpected_5 (by decide) ⟨by omega, by omega⟩ ⟨by omega, by omega⟩ (fun c8 => ?_) (fun c8 => ?_)
  · refine x_iconst (0) dX3_isExpected_10 rfl ?_
    refine x_istore_n (lv' := [(3, iv 0), (0, rv g o), (1, rv g 12), (2, iv n)]) dX3_isExpected_11 rfl (Nat.le_of_ble_eq_true rfl) rfl ?_
    refine x_sub [1, 2, 3, 0] rfl ?_
    exact h_12 _ _ (by omega) (by intro i _ _; omega) (Nat.lt_succ_self _)
  · refine x_iconst (0) dX3_isExpected_8 rfl ?_
    refine x_iret dX3_isExpected_9 rfl (iZ_bool (by omega)) ?_
    exact ⟨_, rfl, rfl, Or.inr ⟨rfl, fun e => by omega⟩⟩

set_option maxHeartbeats 600000 in
set_option maxRecDepth 100000 in
theorem c_X5_append (g : GG) (M : Mem) (o l a b : Int) (ko : isK 5 4 o) (hl : 0 ≤ l ∧ l < 65536) (ha : rg a) (hb : rg b) (hs : 0 ≤ M o 3 ∧ M o 3 < 20) : Ct g yX5_append cX5_append 4 none 0 [rv g o, iv l, iv a, iv b] M (pV (fun M' => M' = up (up (up (up M (o + 1) (M o 3) l) (o + 2) (M o 3) a) (o + 3) (M o 3) b) o 3 (M o 3 + 1))) := by
  refine ct_of (by decide +kernel) (Nat.le_of_ble_eq_true rfl) ?_
  show Ok g mX5_append (rmd 0) (FQ g (pV (fun M' => M' = up (up (up (up M (o + 1) (M o 3) l) (o + 2) (M o 3) a) (o + 3) (M o 3) b) o 3 (M o 3 + 1)))) 0 [(0, rv g o), (1, iv l), (2, iv a), (3, iv b)] [] M
  have ha1 := ha.1
  have ha2 := ha.2
  have hb1 := hb.1
  have hb2 := hb.2
  refine x_aload_n 0 dX5_append_0 rfl rfl ?_
  refine x_geti (k := 3) (kI := 3) dX5_append_1 fl5_22 ko rfl rfl (fun ⟨a1, a1'⟩ => ?_)
  refine x_bipush (20) dX5_append_4 rfl ?_
  refine x_icmp_ge (tgt := 49) dX5_append_6 (by decide) ⟨by omega, by omega⟩ ⟨by decide, by decide⟩ (fun c2 => ?_) (fun c2 => ?_)
  · exfalso; omega
  · refine x_aload_n 0 dX5_append_9 rfl rfl ?_
    refine x_getr (k := 0) (d := 1) dX5_append_10 fl5_9 ko rfl (fun k3 => ?_)
    refine x_aload_n 0 dX5_append_13 rfl rfl ?_
    refine x_geti (k := 3) (kI := 3) dX5_append_14 fl5_22 ko rfl rfl (fun ⟨a4, a4'⟩ => ?_)
    refine x_iload_n 1 dX5_append_17 rfl rfl ?_
    refine x_cast dX5_append_18 k3 (by omega) (by omega) (by decide) ⟨by omega, by omega⟩ (by omega) (by omega) ?_
    refine x_aload_n 0 dX5_append_19 rfl rfl ?_
    refine x_getr (k := 1) (d := 2) dX5_append_20 fl5_15 ko rfl (fun k5 => ?_)
    refine x_aload_n 0 dX5_append_23 rfl rfl ?_
    refine x_geti (k := 3) (kI := 3) dX5_append_24 fl5_22 ko rfl rfl (fun ⟨a6, a6'⟩ => ?_)
    have e7 : (up M (o + 1) (M o 3) l) o 3 = M o 3 := (by simp (disch := omega) only [up_s, up_o, up_k])
    simp only [e7] at a6 a6' ⊢
    refine x_iload_n 2 dX5_append_27 rfl rfl ?_
    refine x_iast dX5_append_28 k5 (by omega) (by omega) (by decide) ⟨by omega, by omega⟩ ?_
    refine x_aload_n 0 dX5_append_29 rfl rfl ?_
    refine x_getr (k := 2) (d := 3) dX5_append_30 fl5_19 ko rfl (fun k8 => ?_)
    refine x_aload_n 0 dX5_append_33 rfl rfl ?_
    refine x_geti (k := 3) (kI := 3) dX5_append_34 fl5_22 ko rfl rfl (fun ⟨a9, a9'⟩ => ?_)
    have e10 : (up (up M (o + 1) (M o 3) l) (o + 2) (M o 3) a) o 3 = M o 3 := (by simp (disch := omega) only [up_s, up_o, up_k])
    simp only [e10] at a9 a9' ⊢
    refine x_iload_n 3 dX5_append_37 rfl rfl ?_
    refine x_iast dX5_append_38 k8 (by omega) (by omega) (by decide) ⟨by omega, by omega⟩ ?_
    refine x_aload_n 0 dX5_append_39 rfl rfl ?_
    refine x_dup dX5_append_40 rfl ?_
    refine x_geti (k := 3) (kI := 3) dX5_append_41 fl5_22 ko rfl rfl (fun ⟨a11, a11'⟩ => ?_)
    have e12 : (up (up (up M (o + 1) (M o 3) l) (o + 2) (M o 3) a) (o + 3) (M o 3) b) o 3 = M o 3 := (by simp (disch := omega) only [up_s, up_o, up_k])
    simp only [e12] at a11 a11' ⊢
    refine x_iconst (1) dX5_append_44 rfl ?_
    refine x_iadd dX5_append_45 ?_
    refine x_puti (k := 3) (kI := 3) dX5_append_46 fw5_22 ko rfl ⟨by omega, by omega⟩ rfl rfl rfl ?_
    refine x_vret dX5_append_49 rfl ?_
    exact ⟨rfl, rfl⟩

set_option maxHeartbeats 600000 in
set_option maxRecDepth 100000 in
theorem c_X5_clear (g : GG) (M : Mem) (o : Int) (ko : isK 5 4 o) : Ct g yX5_clear cX5_clear 2 (some .int) 0 [rv g o] M (pIP (fun v => v = M o 3) (up M o 3 0)) := by
  refine ct_of (by decide +kernel) (Nat.le_of_ble_eq_true rfl) ?_
  show Ok g mX5_clear (rmd 0) (FQ g (pIP (fun v => v = M o 3) (up M o 3 0))) 0 [(0, rv g o)] [] M
  refine x_aload_n 0 dX5_clear_0 rfl rfl ?_
  refine x_geti (k := 3) (kI := 3) dX5_clear_1 fl5_22 ko rfl rfl (fun ⟨a1, a1'⟩ => ?_)
  refine x_istore_n (lv' := [(1, iv (M o 3)), (0, rv g o)]) dX5_clear_4 rfl (Nat.le_of_ble_eq_true rfl) rfl ?_
  refine x_aload_n 1 dX5_clear_5 rfl rfl ?_
  refine x_iconst (0) dX5_clear_6 rfl ?_
  refine x_puti (k := 3) (kI := 3) dX5_clear_7 fw5_22 ko rfl ⟨by decide, by decide⟩ rfl rfl rfl ?_
  refine x_iload_n 0 dX5_clear_10 rfl rfl ?_
  refine x_iret dX5_clear_11 rfl rfl ?_
  exact ⟨_, rfl, rfl, by omega⟩

set_option maxHeartbeats 600000 in
set_option maxRecDepth 100000 in
theorem c_X5_copyFrom (g : GG) (M : Mem) (o q : Int) (ko : isK 5 4 o) (kq : isK 5 4 q) (hd : q + 3 < o ∨ o + 3 < q) (hq : 0 ≤ M q 3 ∧ M q 3 ≤ 20) (hc : ∀ j, 0 ≤ j → j < M q 3 → 0 ≤ M (q + 1) j ∧ M (q + 1) j < 65536) : Ct g yX5_copyFrom cX5_copyFrom 3 none 1 [rv g o, rv g q] M (pV (fun M' => (∀ a j, ¬ (o ≤ a ∧ a ≤ o + 3) → M' a j = M a j) ∧ M' o 3 = M q 3 ∧ ∀ j, 0 ≤ j → j < M q 3 → M' (o + 1) j = M (q + 1) j ∧ M' (o + 2) j = M (q + 2) j ∧ M' (o + 3) j = M (q + 3) j)) := by
  refine ct_of (by decide +kernel) (Nat.le_of_ble_eq_true rfl) ?_
  show Ok g mX5_copyFrom (rmd 1) (FQ g (pV (fun M' => (∀ a j, ¬ (o ≤ a ∧ a ≤ o + 3) → M' a j = M a j) ∧ M' o 3 = M q 3 ∧ ∀ j, 0 ≤ j → j < M q 3 → M' (o + 1) j = M (q + 1) j ∧ M' (o + 2) j = M (q + 2) j ∧ M' (o + 3) j = M (q + 3) j))) 0 [(0, rv g o), (1, rv g q)] [] M
  have h_7 : ∀ (n_7 : Nat) (M1 : Mem) (k : Int), (∀ a j, ¬ (o ≤ a ∧ a ≤ o + 3) → M1 a j = M a j) → (M1 o 3 = k) → (∀ j, 0 ≤ j → j < k → M1 (o + 1) j = M (q + 1) j ∧ M1 (o + 2) j = M (q + 2) j ∧ M1 (o + 3) j = M (q + 3) j) → (0 ≤ k ∧ k ≤ M q 3) → (M q 3 - k).toNat < n_7 → Ok g mX5_copyFrom (rmd 1) (FQ g (pV (fun M' => (∀ a j, ¬ (o ≤ a ∧ a ≤ o + 3) → M' a j = M a j) ∧ M' o 3 = M q 3 ∧ ∀ j, 0 ≤ j → j < M q 3 → M' (o + 1) j = M (q + 1) j ∧ M' (o + 2) j = M (q + 2) j ∧ M' (o + 3) j = M (q + 3) j))) 7 [(0, rv g o), (1, rv g q), (2, iv k)] [] M1 := by
    intro n_7
    induction n_7 with
    | zero => intro M1 k p0 p1 p3 p4 hn_7; exact absurd hn_7 (Nat.not_lt_zero _)
    | succ n_7 ih_7 =>
      intro M1 k p0 p1 p3 p4 hn_7
      refine x_iload_n 2 dX5_copyFrom_7 rfl rfl ?_
      refine x_aload_n 1 dX5_copyFrom_8 rfl rfl ?_
      refine x_geti (k := 3) (kI := 3) dX5_copyFrom_9 fl5_22 kq rfl rfl (fun ⟨a1, a1'⟩ => ?_)
      have e2 : M1 q 3 = M q 3 := (p0 _ _ (by omega))
      simp only [e2] at a1 a1' ⊢
      refine x_icmp_ge (tgt := 43) dX5_copyFrom_12 (by decide) ⟨by omega, by omega⟩ ⟨by omega, by omega⟩ (fun c3 => ?_) (fun c3 => ?_)
      · refine x_vret dX5_copyFrom_43 rfl ?_
        exact ⟨rfl, p0, by omega, fun j j0 j1 => p3 j j0 (by omega)⟩
      · refine x_aload_n 0 dX5_copyFrom_15 rfl rfl ?_
        have h8 := hc k (by omega) (by omega)
        refine x_aload_n 1 dX5_copyFrom_16 rfl rfl ?_
        refine x_getr (k := 0) (d := 1) dX5_copyFrom_17 fl5_9 kq rfl (fun k4 => ?_)
        refine x_iload_n 2 dX5_copyFrom_20 rfl rfl ?_
        refine x_cald dX5_copyFrom_21 k4 (by omega) (by omega) (by decide) (fun ⟨a5, a5'⟩ => ?_)
        have e6 : M1 (q + 1) k = M (q + 1) k := (p0 _ _ (by omega))
        simp only [e6] at a5 a5' ⊢
        refine x_aload_n 1 dX5_copyFrom_22 rfl rfl ?_
        refine x_getr (k := 1) (d := 2) dX5_copyFrom_23 fl5_15 kq rfl (fun k7 => ?_)
        refine x_iload_n 2 dX5_copyFrom_26 rfl rfl ?_
        refine x_iald dX5_copyFrom_27 k7 (by omega) (by omega) (by decide) (fun ⟨a8, a8'⟩ => ?_)
        have e9 : M1 (q + 2) k = M (q + 2) k := (p0 _ _ (by omega))
        simp only [e9] at a8 a8' ⊢
        refine x_aload_n 1 dX5_copyFrom_28 rfl rfl ?_
        refine x_getr (k := 2) (d := 3) dX5_copyFrom_29 fl5_19 kq rfl (fun k10 => ?_)
        refine x_iload_n 2 dX5_copyFrom_32 rfl rfl ?_
        refine x_iald dX5_copyFrom_33 k10 (by omega) (by omega) (by decide) (fun ⟨a11, a11'⟩ => ?_)
        have e12 : M1 (q + 3) k = M (q + 3) k := (p0 _ _ (by omega))
        simp only [e12] at a11 a11' ⊢
        refine x_callVV (as := [iv (M (q + 1) k), iv (M (q + 2) k), iv (M (q + 3) k)]) (rest := []) dX5_copyFrom_34 vl5_26 ko (c_X5_append g M1 o (M (q + 1) k) (M (q + 2) k) (M (q + 3) k) ko (by omega) ⟨by omega, by omega⟩ ⟨by omega, by omega⟩ (by omega)) rfl rfl (Nat.le_of_ble_eq_true rfl) ⟨Nat.le_of_ble_eq_true rfl, Nat.le_of_ble_eq_true rfl⟩ (fun M15 h14 => ?_)
        have hm9 := h14
        refine x_iinc (z := k) (lv' := [(2, iv (k + 1)), (0, rv g o), (1, rv g q)]) 2 dX5_copyFrom_37 rfl (Nat.le_of_ble_eq_true rfl) rfl ?_
        refine x_goto (tgt := 7) dX5_copyFrom_40 (by decide) ?_
        refine x_sub [1, 2, 0] rfl ?_
        exact ih_7 _ _ (by rw [hm9]; intro a j h; simp (disch := omega) only [up_o]; exact p0 a j h) (by rw [hm9, up_s, p1]) (by rw [hm9, p1]; refine ext_lt (fun j j0 j1 => ?_) ?_; simp (disch := omega) only [up_o, up_k]; exact p3 j j0 j1; refine ⟨?_, ?_, ?_⟩ <;> simp (disch := omega) only [up_o, up_s]) (by omega) (by omega)
  refine x_aload_n 0 dX5_copyFrom_0 rfl rfl ?_
  refine x_iconst (0) dX5_copyFrom_1 rfl ?_
  refine x_puti (k := 3) (kI := 3) dX5_copyFrom_2 fw5_22 ko rfl ⟨by decide, by decide⟩ rfl rfl rfl ?_
  refine x_iconst (0) dX5_copyFrom_5 rfl ?_
  refine x_istore_n (lv' := [(2, iv 0), (0, rv g o), (1, rv g q)]) dX5_copyFrom_6 rfl (Nat.le_of_ble_eq_true rfl) rfl ?_
  refine x_sub [1, 2, 0] rfl ?_
  exact h_7 _ _ _ (by intro a j h; simp (disch := omega) only [up_o]) (by rw [up_s]) (by intro j _ _; omega) (by omega) (Nat.lt_succ_self _)
