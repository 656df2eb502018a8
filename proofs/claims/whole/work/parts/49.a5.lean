set_option maxHeartbeats 600000 in
set_option maxRecDepth 100000 in
theorem c_X7_release (g : GG) (M : Mem) (s : Int) (s0 : s = -1 ∨ (0 ≤ s ∧ s < 240 ∧ 1 ≤ M 16 s ∧ M 16 s ≤ 240)) (h3 : 0 ≤ M 13 3 ∧ M 13 3 ≤ 240) : Ct g yX7_release cX7_release 2 none 0 [rv g 13, iv s] M (pV (fun M' => RLs M s M')) := by
  refine ct_of (by decide +kernel) (Nat.le_of_ble_eq_true rfl) ?_
  show Ok g mX7_release (rmd 0) (FQ g (pV (fun M' => RLs M s M'))) 0 [(0, rv g 13), (1, iv s)] [] M
  refine x_iload_n 1 dX7_release_0 rfl rfl ?_
  refine x_if_lt (tgt := 11) dX7_release_1 (by decide) ⟨by omega, by omega⟩ (fun c1 => ?_) (fun c1 => ?_)
  · refine x_vret dX7_release_11 rfl ?_
    exact ⟨rfl, Or.inl ⟨by omega, rfl⟩⟩
  · refine x_iload_n 1 dX7_release_4 rfl rfl ?_
    refine x_sipush (240) dX7_release_5 rfl ?_
    refine x_icmp_lt (tgt := 12) dX7_release_8 (by decide) ⟨by omega, by omega⟩ ⟨by decide, by decide⟩ (fun c2 => ?_) (fun c2 => ?_)
    · refine x_aload_n 0 dX7_release_12 rfl rfl ?_
      refine x_getr (k := 2) (d := 3) dX7_release_13 fl7_18 k_13 rfl (fun k3 => ?_)
      have k3 : isK 20 240 16 := k3
      show Ok g mX7_release (rmd 0) (FQ g (pV (fun M' => RLs M s M'))) 16 [(0, rv g 13), (1, iv s)] [rv g 16] M
      refine x_iload_n 1 dX7_release_16 rfl rfl ?_
      refine x_dup2 dX7_release_17 rfl rfl ?_
      refine x_iald dX7_release_18 k3 (by omega) (by omega) (by decide) (fun ⟨a4, a4'⟩ => ?_)
      refine x_iconst (1) dX7_release_19 rfl ?_
      refine x_isub dX7_release_20 ?_
      refine x_iast dX7_release_21 k3 (by omega) (by omega) (by decide) ⟨by omega, by omega⟩ ?_
      refine x_aload_n 0 dX7_release_22 rfl rfl ?_
      refine x_getr (k := 2) (d := 3) dX7_release_23 fl7_18 k_13 rfl (fun k5 => ?_)
      have k5 : isK 20 240 16 := k5
      show Ok g mX7_release (rmd 0) (FQ g (pV (fun M' => RLs M s M'))) 26 [(0, rv g 13), (1, iv s)] [rv g 16] (up M 16 s ((M 16 s) - 1))
      refine x_iload_n 1 dX7_release_26 rfl rfl ?_
      refine x_iald dX7_release_27 k5 (by omega) (by omega) (by decide) (fun ⟨a6, a6'⟩ => ?_)
      have e7 : (up M 16 s ((M 16 s) - 1)) 16 s = (M 16 s) - 1 := (by simp (disch := omega) only [up_s, up_o, up_k])
      simp only [e7] at a6 a6' ⊢
      refine x_if_ne (tgt := 41) dX7_release_28 (by decide) ⟨by omega, by omega⟩ (fun c8 => ?_) (fun c8 => ?_)
      · refine x_vret dX7_release_41 rfl ?_
        refine ⟨rfl, Or.inr ⟨by omega, by omega, ?_, fun o k h1 h2 => ?_, ?_⟩⟩
        · simp (disch := omega) only [up_o, up_s]
        · simp (disch := omega) only [up_n]
        · right; exact ⟨by omega, up_o (by omega)⟩
      · refine x_aload_n 0 dX7_release_31 rfl rfl ?_
        refine x_dup dX7_release_32 rfl ?_
        refine x_geti (k := 3) (kI := 3) dX7_release_33 fl7_21 k_13 rfl rfl (fun ⟨a9, a9'⟩ => ?_)
        have e10 : (up M 16 s ((M 16 s) - 1)) 13 3 = M 13 3 := (by simp (disch := omega) only [up_s, up_o, up_k])
        simp only [e10] at a9 a9' ⊢
        refine x_iconst (1) dX7_release_36 rfl ?_
        refine x_isub dX7_release_37 ?_
        refine x_puti (k := 3) (kI := 3) dX7_release_38 fw7_21 k_13 rfl ⟨by omega, by omega⟩ rfl rfl rfl ?_
        refine x_vret dX7_release_41 rfl ?_
        refine ⟨rfl, Or.inr ⟨by omega, by omega, ?_, fun o k h1 h2 => ?_, ?_⟩⟩
        · simp (disch := omega) only [up_o, up_s]
        · simp (disch := omega) only [up_n]
        · left; exact ⟨by omega, by rw [up_s]⟩
    · refine x_vret dX7_release_11 rfl ?_
      exact ⟨rfl, Or.inl ⟨by omega, rfl⟩⟩

set_option maxHeartbeats 600000 in
set_option maxRecDepth 100000 in
theorem c_X7_keep (g : GG) (M : Mem) (n : Int) (n0 : 0 ≤ n ∧ n ≤ 6) (hU : ∀ s, 0 ≤ s → s < 240 → 0 ≤ M 16 s ∧ M 16 s ≤ 240) (hf : ∃ s, 0 ≤ s ∧ s < 240 ∧ M 16 s = 0) (h3 : 0 ≤ M 13 3 ∧ M 13 3 ≤ 240) : Ct g yX7_keep cX7_keep 4 (some .int) 3 [rv g 13, rv g 12, iv n] M (pI (fun z M' => KP M n z M')) := by
  refine ct_of (by decide +kernel) (Nat.le_of_ble_eq_true rfl) ?_
  show Ok g mX7_keep (rmd 3) (FQ g (pI (fun z M' => KP M n z M'))) 0 [(0, rv g 13), (1, rv g 12), (2, iv n)] [] M
  refine x_aload_n 0 dX7_keep_0 rfl rfl ?_
  refine x_aload_n 1 dX7_keep_1 rfl rfl ?_
  refine x_iload_n 2 dX7_keep_2 rfl rfl ?_
  refine x_callVIP (as := [rv g 12, iv n]) (rest := []) dX7_keep_3 vl7_25 k_13 (c_X7_find g M n n0) rfl rfl (Nat.le_of_ble_eq_true rfl) ⟨Nat.le_of_ble_eq_true rfl, Nat.le_of_ble_eq_true rfl⟩ (fun z1 h2 => ?_)
  have hz9 := lst_is (fun s => 0 < M 16 s ∧ CT M s n (fun k => M 12 k)) (n := 240) (by omega)
  rw [← h2] at hz9
  have hz8 := lst_range (fun s => 0 < M 16 s ∧ CT M s n (fun k => M 12 k)) (n := 240) (by omega)
  rw [← h2] at hz8
  refine x_istore_n (lv' := [(3, iv z1), (0, rv g 13), (1, rv g 12), (2, iv n)]) dX7_keep_6 rfl (Nat.le_of_ble_eq_true rfl) rfl ?_
  refine x_iload_n 0 dX7_keep_7 rfl rfl ?_
  refine x_iconst (-1) dX7_keep_8 rfl ?_
  refine x_icmp_ne (tgt := 34) dX7_keep_9 (by decide) ⟨by omega, by omega⟩ ⟨by decide, by decide⟩ (fun c4 => ?_) (fun c4 => ?_)
  · have u9 := hU z1 (by omega) (by omega)
    refine x_aload_n 1 dX7_keep_34 rfl rfl ?_
    refine x_getr (k := 2) (d := 3) dX7_keep_35 fl7_18 k_13 rfl (fun k5 => ?_)
    have k5 : isK 20 240 16 := k5
    show Ok g mX7_keep (rmd 3) (FQ g (pI (fun z M' => KP M n z M'))) 38 [(3, iv z1), (0, rv g 13), (1, rv g 12), (2, iv n)] [rv g 16] M
    refine x_iload_n 0 dX7_keep_38 rfl rfl ?_
    refine x_dup2 dX7_keep_39 rfl rfl ?_
    refine x_iald dX7_keep_40 k5 (by omega) (by omega) (by decide) (fun ⟨a6, a6'⟩ => ?_)
    refine x_iconst (1) dX7_keep_41 rfl ?_
    refine x_iadd dX7_keep_42 ?_
    refine x_iast dX7_keep_43 k5 (by omega) (by omega) (by decide) ⟨by omega, by omega⟩ ?_
    refine x_iload_n 0 dX7_keep_44 rfl rfl ?_
    refine x_iret dX7_keep_45 rfl rfl ?_
    refine ⟨_, rfl, ?_⟩
    have hz7 : 0 < M 16 z1 ∧ CT M z1 n (fun k => M 12 k) := by
      rcases hz9 with ⟨w, _⟩ | ⟨_, _, w, _⟩
      · omega
      · exact w
    exact KP.found (by omega) (by omega) hz7.1 hz7.2
  · refine x_aload_n 1 dX7_keep_12 rfl rfl ?_
    refine x_callVIP (as := []) (rest := []) dX7_keep_13 vl7_29 k_13 (c_X7_firstFree g M) rfl rfl (Nat.le_of_ble_eq_true rfl) ⟨Nat.le_of_ble_eq_true rfl, Nat.le_of_ble_eq_true rfl⟩ (fun z7 h8 => ?_)
    obtain ⟨y1, y2, y3, y4⟩ := h8
    have y6 := hU z7 (by omega) (by omega)
    have y5 : M 16 z7 = 0 := by
      obtain ⟨q, q0, q1, q2⟩ := hf
      rcases Int.lt_or_le q z7 with w | w
      · have := y4 q q0 w; omega
      · rcases y3 with w2 | w2
        · have e : z7 = q := by omega
          rw [e]; exact q2
        · omega
    refine x_istore_n (lv' := [(3, iv z7), (0, rv g 13), (1, rv g 12), (2, iv n)]) dX7_keep_16 rfl (Nat.le_of_ble_eq_true rfl) rfl ?_
    refine x_aload_n 1 dX7_keep_17 rfl rfl ?_
    refine x_iload_n 0 dX7_keep_18 rfl rfl ?_
    refine x_aload_n 2 dX7_keep_19 rfl rfl ?_
    refine x_iload_n 3 dX7_keep_20 rfl rfl ?_
    refine x_callVV (as := [iv z7, rv g 12, iv n]) (rest := []) dX7_keep_21 vl7_33 k_13 (c_X7_fill g M z7 n (by omega) n0) rfl rfl (Nat.le_of_ble_eq_true rfl) ⟨Nat.le_of_ble_eq_true rfl, Nat.le_of_ble_eq_true rfl⟩ (fun M12 h11 => ?_)
    obtain ⟨f1, f2⟩ := h11
    have hno : ∀ q, 0 ≤ q → q < 240 → ¬ (0 < M 16 q ∧ CT M q n (fun k => M 12 k)) := by
      rcases hz9 with ⟨_, w⟩ | ⟨w, _⟩
      · exact w
      · omega
    refine x_aload_n 1 dX7_keep_24 rfl rfl ?_
    refine x_dup dX7_keep_25 rfl ?_
    refine x_geti (k := 3) (kI := 3) dX7_keep_26 fl7_21 k_13 rfl rfl (fun ⟨a13, a13'⟩ => ?_)
    have e14 : M12 13 3 = M 13 3 := (f1 _ _ (by omega) (by omega))
    simp only [e14] at a13 a13' ⊢
    refine x_iconst (1) dX7_keep_29 rfl ?_
    refine x_iadd dX7_keep_30 ?_
    refine x_puti (k := 3) (kI := 3) dX7_keep_31 fw7_21 k_13 rfl ⟨by omega, by omega⟩ rfl rfl rfl ?_
    have u9 := hU z7 (by omega) (by omega)
    refine x_aload_n 1 dX7_keep_34 rfl rfl ?_
    refine x_getr (k := 2) (d := 3) dX7_keep_35 fl7_18 k_13 rfl (fun k15 => ?_)
    have k15 : isK 20 240 16 := k15
    show Ok g mX7_keep (rmd 3) (FQ g (pI (fun z M' => KP M n z M'))) 38 [(3, iv z7), (0, rv g 13), (1, rv g 12), (2, iv n)] [rv g 16] (up M12 13 3 ((M 13 3) + 1))
    refine x_iload_n 0 dX7_keep_38 rfl rfl ?_
    refine x_dup2 dX7_keep_39 rfl rfl ?_
    refine x_iald dX7_keep_40 k15 (by omega) (by omega) (by decide) (fun ⟨a16, a16'⟩ => ?_)
    have e17 : (up M12 13 3 ((M 13 3) + 1)) 16 z7 = M 16 z7 := (Eq.trans (b := M12 16 z7) (by simp (disch := omega) only [up_o, up_k]) (f1 _ _ (by omega) (by omega)))
    simp only [e17] at a16 a16' ⊢
    refine x_iconst (1) dX7_keep_41 rfl ?_
    refine x_iadd dX7_keep_42 ?_
    refine x_iast dX7_keep_43 k15 (by omega) (by omega) (by decide) ⟨by omega, by omega⟩ ?_
    refine x_iload_n 0 dX7_keep_44 rfl rfl ?_
    refine x_iret dX7_keep_45 rfl rfl ?_
    refine ⟨_, rfl, ?_⟩
    exact KP.fresh (by omega) (by omega) y5 hno f1 f2

set_option maxHeartbeats 600000 in
set_option maxRecDepth 100000 in
theorem c_X6_conclude (g : GG) (M : Mem) (o n : Int) (ko : isK 6 10 o) (n0 : 0 ≤ n ∧ n ≤ 6) (hc : ∀ q, 0 ≤ q → q < n → 0 ≤ M (o + 5) q ∧ M (o + 5) q < 65536) : Ct g yX6_conclude cX6_conclude 3 none 0 [rv g o, iv n] M (pV (fun M' => M' = up (up M o 8 (if lst (fun q => M (o + 5) q ≠ 111) n = -1 then 97 else M (o + 5) (lst (fun q => M (o + 5) q ≠ 111) n))) o 9 (lst (fun q => M (o + 5) q ≠ 111) n))) := by
  refine ct_of (by decide +kernel) (Nat.le_of_ble_eq_true rfl) ?_
  show Ok g mX6_conclude (rmd 0) (FQ g (pV (fun M' => M' = up (up M o 8 (if lst (fun q => M (o + 5) q ≠ 111) n = -1 then 97 else M (o + 5) (lst (fun q => M (o + 5) q ≠ 111) n))) o 9 (lst (fun q => M (o + 5) q ≠ 111) n)))) 0 [(0, rv g o), (1, iv n)] [] M
  have h_13 : ∀ (n_13 : Nat) (M1 : Mem) (t : Int), (0 ≤ t ∧ t ≤ n) → (∀ a k, ¬ (a = o ∧ (k = 8 ∨ k = 9)) → M1 a k = M a k) → ((M1 o 9 = -1 ∧ M1 o 8 = 97 ∧ ∀ q, 0 ≤ q → q < t → M (o + 5) q = 111) ∨ (0 ≤ M1 o 9 ∧ M1 o 9 < n ∧ M1 o 8 = M (o + 5) (M1 o 9) ∧ M (o + 5) (M1 o 9) ≠ 111 ∧ ∀ q, 0 ≤ q → q < M1 o 9 → M (o + 5) q = 111)) → (n - t).toNat < n_13 → Ok g mX6_conclude (rmd 0) (FQ g (pV (fun M' => M' = up (up M o 8 (if lst (fun q => M (o + 5) q ≠ 111) n = -1 then 97 else M (o + 5) (lst (fun q => M (o + 5) q ≠ 111) n))) o 9 (lst (fun q => M (o + 5) q ≠ 111) n)))) 13 [(0, rv g o), (1, iv n), (2, iv t)] [] M1 := by
    intro n_13
    induction n_13 with
    | zero => intro M1 t j0 j1 j2 hn_13; exact absurd hn_13 (Nat.not_lt_zero _)
    | succ n_13 ih_13 =>
      intro M1 t j0 j1 j2 hn_13
      refine x_iload_n 2 dX6_conclude_13 rfl rfl ?_
      refine x_iload_n 1 dX6_conclude_14 rfl rfl ?_
      refine x_icmp_ge (tgt := 58) dX6_conclude_15 (by decide) ⟨by omega, by omega⟩ ⟨by omega, by omega⟩ (fun c1 => ?_) (fun c1 => ?_)
      · refine x_vret dX6_conclude_58 rfl ?_
        refine ⟨rfl, ?_⟩
        have hl : lst (fun q => M (o + 5) q ≠ 111) n = M1 o 9 := lst_eq n0.1 (by
          rcases j2 with ⟨e1, e2, e3⟩ | ⟨e1, e2, e3, e4, e5⟩
          · exact Or.inl ⟨e1, fun q q0 q1 w => w (e3 q q0 (by omega))⟩
          · exact Or.inr ⟨e1, e2, e4, fun q q0 q1 w => w (e5 q q0 q1)⟩)
        rw [hl]
        funext a k
        by_cases h9 : a = o ∧ k = 9
        · obtain ⟨rfl, rfl⟩ := h9; rw [up_s]
        rw [up_n h9]
        by_cases h8 : a = o ∧ k = 8
        · obtain ⟨rfl, rfl⟩ := h8
          rw [up_s]
          rcases j2 with ⟨e1, e2, e3⟩ | ⟨e1, e2, e3, e4, e5⟩
          · rw [if_pos e1]; exact e2
          · rw [if_neg (by omega)]; exact e3
        rw [up_n h8]
        exact j1 a k (by omega)
      · refine x_aload_n 0 dX6_conclude_18 rfl rfl ?_
        refine x_geti (k := 9) (kI := 9) dX6_conclude_19 fl6_47 ko rfl rfl (fun ⟨a2, a2'⟩ => ?_)
        refine x_iconst (-1) dX6_conclude_22 rfl ?_
        refine x_icmp_ne (tgt := 58) dX6_conclude_23 (by decide) ⟨by omega, by omega⟩ ⟨by decide, by decide⟩ (fun c3 => ?_) (fun c3 => ?_)
        · refine x_vret dX6_conclude_58 rfl ?_
          refine ⟨rfl, ?_⟩
          have hl : lst (fun q => M (o + 5) q ≠ 111) n = M1 o 9 := lst_eq n0.1 (by
            rcases j2 with ⟨e1, e2, e3⟩ | ⟨e1, e2, e3, e4, e5⟩
            · exact Or.inl ⟨e1, fun q q0 q1 w => w (e3 q q0 (by omega))⟩
            · exact Or.inr ⟨e1, e2, e4, fun q q0 q1 w => w (e5 q q0 q1)⟩)
          rw [hl]
          funext a k
          by_cases h9 : a = o ∧ k = 9
          · obtain ⟨rfl, rfl⟩ := h9; rw [up_s]
          rw [up_n h9]
          by_cases h8 : a = o ∧ k = 8
          · obtain ⟨rfl, rfl⟩ := h8
            rw [up_s]
            rcases j2 with ⟨e1, e2, e3⟩ | ⟨e1, e2, e3, e4, e5⟩
            · rw [if_pos e1]; exact e2
            · rw [if_neg (by omega)]; exact e3
          rw [up_n h8]
          exact j1 a k (by omega)
        · refine x_aload_n 0 dX6_conclude_26 rfl rfl ?_
          have u8 := hc t (by omega) (by omega)
          refine x_getr (k := 1) (d := 5) dX6_conclude_27 fl6_18 ko rfl (fun k4 => ?_)
          refine x_iload_n 2 dX6_conclude_30 rfl rfl ?_
          refine x_cald dX6_conclude_31 k4 (by omega) (by omega) (by decide) (fun ⟨a5, a5'⟩ => ?_)
          have e6 : M1 (o + 5) t = M (o + 5) t := (j1 _ _ (by omega))
          simp only [e6] at a5 a5' ⊢
          refine x_bipush (111) dX6_conclude_32 rfl ?_
          refine x_icmp_eq (tgt := 52) dX6_conclude_34 (by decide) ⟨by omega, by omega⟩ ⟨by decide, by decide⟩ (fun c7 => ?_) (fun c7 => ?_)
          · refine x_iinc (z := t) (lv' := [(2, iv (t + 1)), (0, rv g o), (1, iv n)]) 2 dX6_conclude_52 rfl (Nat.le_of_ble_eq_true rfl) rfl ?_
            refine x_goto (tgt := 13) dX6_conclude_55 (by decide) ?_
            refine x_sub [1, 2, 0] rfl ?_
            exact ih_13 _ _ (by omega) (by exact j1) (by left; rcases j2 with ⟨e1, e2, e3⟩ | ⟨e1, _⟩; exact ⟨e1, e2, ext_lt e3 (by omega)⟩; omega) (by omega)
          · refine x_aload_n 0 dX6_conclude_37 rfl rfl ?_
            refine x_aload_n 0 dX6_conclude_38 rfl rfl ?_
            refine x_getr (k := 1) (d := 5) dX6_conclude_39 fl6_18 ko rfl (fun k8 => ?_)
            refine x_iload_n 2 dX6_conclude_42 rfl rfl ?_
            refine x_cald dX6_conclude_43 k8 (by omega) (by omega) (by decide) (fun ⟨a9, a9'⟩ => ?_)
            have e10 : M1 (o + 5) t = M (o + 5) t := (j1 _ _ (by omega))
            simp only [e10] at a9 a9' ⊢
            refine x_puti (k := 8) (kI := 8) dX6_conclude_44 fw6_43 ko rfl ⟨by omega, by omega⟩ (iZ_char (by omega) (by omega)) (iZ_charF (by omega) (by omega)) rfl ?_
            refine x_aload_n 0 dX6_conclude_47 rfl rfl ?_
            refine x_iload_n 2 dX6_conclude_48 rfl rfl ?_
            refine x_puti (k := 9) (kI := 9) dX6_conclude_49 fw6_47 ko rfl ⟨by omega, by omega⟩ rfl rfl rfl ?_
            refine x_iinc (z := t) (lv' := [(2, iv (t + 1)), (0, rv g o), (1, iv n)]) 2 dX6_conclude_52 rfl (Nat.le_of_ble_eq_true rfl) rfl ?_
            refine x_goto (tgt := 13) dX6_conclude_55 (by decide) ?_
            refine x_sub [1, 2, 0] rfl ?_
            exact ih_13 _ _ (by omega) (by intro a k h; rw [up_n (by omega), up_n (by omega)]; exact j1 a k h) (by right; rcases j2 with ⟨e1, e2, e3⟩ | ⟨e1, _⟩; rw [up_s, up_k (by omega), up_s]; exact ⟨by omega, by omega, rfl, by omega, e3⟩; omega) (by omega)
  refine x_aload_n 0 dX6_conclude_0 rfl rfl ?_
  refine x_bipush (97) dX6_conclude_1 rfl ?_
  refine x_puti (k := 8) (kI := 8) dX6_conclude_3 fw6_43 ko rfl ⟨by decide, by decide⟩ (iZ_char (by omega) (by omega)) (iZ_charF (by omega) (by omega)) rfl ?_
  refine x_aload_n 0 dX6_conclude_6 rfl rfl ?_
  refine x_iconst (-1) dX6_conclude_7 rfl ?_
  refine x_puti (k := 9) (kI := 9) dX6_conclude_8 fw6_47 ko rfl ⟨by decide, by decide⟩ rfl rfl rfl ?_
  refine x_iconst (0) dX6_conclude_11 rfl ?_
  refine x_istore_n (lv' := [(2, iv 0), (0, rv g o), (1, iv n)]) dX6_conclude_12 rfl (Nat.le_of_ble_eq_true rfl) rfl ?_
  refine x_sub [1, 2, 0] rfl ?_
  exact h_13 _ _ _ (by omega) (by intro a k h; rw [up_n (by omega), up_n (by omega)]) (by left; exact ⟨by rw [up_s], by rw [up_k (by omega), up_s], fun q _ _ => by omega⟩) (Nat.lt_succ_self _)
