set_option maxHeartbeats 600000 in
set_option maxRecDepth 100000 in
theorem c_X9_kept (g : GG) (M : Mem)  (I : RB M) : Ct g yX9_kept cX9_kept 4 (some .int) 3 [rv g 468] M (pIP (fun z => z = kpt M) (up M 468 0 0)) := by
  refine ct_of (by decide +kernel) (Nat.le_of_ble_eq_true rfl) ?_
  show Ok g mX9_kept (rmd 3) (FQ g (pIP (fun z => z = kpt M) (up M 468 0 0))) 0 [(0, rv g 468)] [] M
  have i0 := I.rng
  have h_9 : ∀ (n_9 : Nat) (c : Int) (r : Int), (0 ≤ r) → (r ≤ M 468 18) → (c = sm (fun r => cnt (fun t => Fst M r t) ((M 476 ((M 482 (r)))))) r) → (0 ≤ c ∧ c ≤ 6 * r) → (M 468 18 - r).toNat < n_9 → Ok g mX9_kept (rmd 3) (FQ g (pIP (fun z => z = kpt M) (up M 468 0 0))) 9 [(0, rv g 468), (1, iv c), (2, iv r)] [] (up M 468 0 0) := by
    intro n_9
    induction n_9 with
    | zero => intro c r j0 j1 j2 j3 hn_9; exact absurd hn_9 (Nat.not_lt_zero _)
    | succ n_9 ih_9 =>
      intro c r j0 j1 j2 j3 hn_9
      refine x_iload_n 2 dX9_kept_9 rfl rfl ?_
      refine x_aload_n 0 dX9_kept_10 rfl rfl ?_
      refine x_geti (k := 18) (kI := 18) dX9_kept_11 fl9_130 k_468 rfl rfl (fun ⟨a1, a1'⟩ => ?_)
      have e2 : (up M 468 0 0) 468 18 = M 468 18 := (by simp (disch := omega) only [up_s, up_o, up_k])
      simp only [e2] at a1 a1' ⊢
      refine x_icmp_ge (tgt := 63) dX9_kept_14 (by decide) ⟨by omega, by omega⟩ ⟨by omega, by omega⟩ (fun c3 => ?_) (fun c3 => ?_)
      · refine x_iload_n 1 dX9_kept_63 rfl rfl ?_
        refine x_iret dX9_kept_64 rfl rfl ?_
        exact ⟨_, rfl, rfl, by rw [j2, show r = M 468 18 by omega]; rfl⟩
      · have i1 := I.run r (by omega) (by omega)
        have i2 := I.prob (M 482 r) (by omega) (by omega)
        refine x_iconst (0) dX9_kept_17 rfl ?_
        refine x_istore_n (lv' := [(3, iv 0), (0, rv g 468), (1, iv c), (2, iv r)]) dX9_kept_18 rfl (Nat.le_of_ble_eq_true rfl) rfl ?_
        have h_19 : ∀ (n_19 : Nat) (e : Int) (t : Int), (0 ≤ t) → (t ≤ (M 476 ((M 482 (r))))) → (e = c + cnt (fun t => Fst M r t) t) → (0 ≤ e ∧ e ≤ c + t) → ((M 476 ((M 482 (r)))) - t).toNat < n_19 → Ok g mX9_kept (rmd 3) (FQ g (pIP (fun z => z = kpt M) (up M 468 0 0))) 19 [(0, rv g 468), (1, iv e), (2, iv r), (3, iv t)] [] (up M 468 0 0) := by
          intro n_19
          induction n_19 with
          | zero => intro e t l0 l1 l2 l3 hn_19; exact absurd hn_19 (Nat.not_lt_zero _)
          | succ n_19 ih_19 =>
            intro e t l0 l1 l2 l3 hn_19
            refine x_iload_n 3 dX9_kept_19 rfl rfl ?_
            refine x_aload_n 0 dX9_kept_20 rfl rfl ?_
            refine x_getr (k := 12) (d := 8) dX9_kept_21 fl9_32 k_468 rfl (fun k4 => ?_)
            have k4 : isK 20 5 476 := k4
            show Ok g mX9_kept (rmd 3) (FQ g (pIP (fun z => z = kpt M) (up M 468 0 0))) 24 [(0, rv g 468), (1, iv e), (2, iv r), (3, iv t)] [rv g 476, iv t] (up M 468 0 0)
            refine x_aload_n 0 dX9_kept_24 rfl rfl ?_
            refine x_getr (k := 20) (d := 14) dX9_kept_25 fl9_50 k_468 rfl (fun k5 => ?_)
            have k5 : isK 20 40 482 := k5
            show Ok g mX9_kept (rmd 3) (FQ g (pIP (fun z => z = kpt M) (up M 468 0 0))) 28 [(0, rv g 468), (1, iv e), (2, iv r), (3, iv t)] [rv g 482, rv g 476, iv t] (up M 468 0 0)
            refine x_iload_n 2 dX9_kept_28 rfl rfl ?_
            refine x_iald dX9_kept_29 k5 (by omega) (by omega) (by decide) (fun ⟨a6, a6'⟩ => ?_)
            have e7 : (up M 468 0 0) 482 r = M 482 r := (by simp (disch := omega) only [up_s, up_o, up_k])
            simp only [e7] at a6 a6' ⊢
            refine x_iald dX9_kept_30 k4 (by omega) (by omega) (by decide) (fun ⟨a8, a8'⟩ => ?_)
            have e9 : (up M 468 0 0) 476 (M 482 r) = M 476 (M 482 r) := (by simp (disch := omega) only [up_s, up_o, up_k])
            simp only [e9] at a8 a8' ⊢
            refine x_icmp_ge (tgt := 57) dX9_kept_31 (by decide) ⟨by omega, by omega⟩ ⟨by omega, by omega⟩ (fun c10 => ?_) (fun c10 => ?_)
            · refine x_iinc (z := r) (lv' := [(2, iv (r + 1)), (0, rv g 468), (1, iv e), (3, iv t)]) 2 dX9_kept_57 rfl (Nat.le_of_ble_eq_true rfl) rfl ?_
              refine x_goto (tgt := 9) dX9_kept_60 (by decide) ?_
              refine x_sub [1, 2, 0] rfl ?_
              exact ih_9 _ _ (by omega) (by omega) (by rw [sm_s (by omega), ← j2, l2, show t = M 476 (M 482 r) by omega]) (by have u9 := cnt_range (fun t => Fst M r t) (n := t) (by omega); omega) (by omega)
            · refine x_iload_n 1 dX9_kept_34 rfl rfl ?_
              refine x_aload_n 0 dX9_kept_35 rfl rfl ?_
              refine x_iload_n 2 dX9_kept_36 rfl rfl ?_
              refine x_iload_n 3 dX9_kept_37 rfl rfl ?_
              refine x_callVIP (as := [iv r, iv t]) (rest := [iv e]) dX9_kept_38 vl9_199 k_468 (c_X9_isFirst g (up M 468 0 0) r t (I.code 0) (by omega) (by rw [up_code (by omega)]; omega) (by omega) (by rw [up_code (by omega), up_code (by omega)]; omega)) rfl rfl (Nat.le_of_ble_eq_true rfl) ⟨Nat.le_of_ble_eq_true rfl, Nat.le_of_ble_eq_true rfl⟩ (fun z11 h12 => ?_)
              rw [Fst_code] at h12
              refine x_if_eq (tgt := 48) dX9_kept_41 (by decide) ⟨by omega, by omega⟩ (fun c14 => ?_) (fun c14 => ?_)
              · refine x_iconst (0) dX9_kept_48 rfl ?_
                refine x_iadd dX9_kept_49 ?_
                refine x_istore_n (lv' := [(1, iv (e + 0)), (0, rv g 468), (2, iv r), (3, iv t)]) dX9_kept_50 rfl (Nat.le_of_ble_eq_true rfl) rfl ?_
                refine x_iinc (z := t) (lv' := [(3, iv (t + 1)), (1, iv (e + 0)), (0, rv g 468), (2, iv r)]) 3 dX9_kept_51 rfl (Nat.le_of_ble_eq_true rfl) rfl ?_
                refine x_goto (tgt := 19) dX9_kept_54 (by decide) ?_
                refine x_sub [2, 1, 3, 0] rfl ?_
                exact ih_19 _ _ (by omega) (by omega) (by rw [cnt_f (by omega) (by ((clear ih_9 ih_19; grind)))]; omega) (by omega) (by omega)
              · refine x_iconst (1) dX9_kept_44 rfl ?_
                refine x_goto (tgt := 49) dX9_kept_45 (by decide) ?_
                refine x_iadd dX9_kept_49 ?_
                refine x_istore_n (lv' := [(1, iv (e + 1)), (0, rv g 468), (2, iv r), (3, iv t)]) dX9_kept_50 rfl (Nat.le_of_ble_eq_true rfl) rfl ?_
                refine x_iinc (z := t) (lv' := [(3, iv (t + 1)), (1, iv (e + 1)), (0, rv g 468), (2, iv r)]) 3 dX9_kept_51 rfl (Nat.le_of_ble_eq_true rfl) rfl ?_
                refine x_goto (tgt := 19) dX9_kept_54 (by decide) ?_
                refine x_sub [2, 1, 3, 0] rfl ?_
                exact ih_19 _ _ (by omega) (by omega) (by rw [cnt_t (by omega) ((by (clear ih_9 ih_19; grind)))]; omega) (by omega) (by omega)
        refine x_sub [1, 2, 3, 0] rfl ?_
        exact h_19 _ _ _ (by omega) (by omega) (by rw [cnt_0]; omega) (by omega) (Nat.lt_succ_self _)
  refine x_aload_n 0 dX9_kept_0 rfl rfl ?_
  refine x_iconst (0) dX9_kept_1 rfl ?_
  refine x_puti (k := 0) (kI := 0) dX9_kept_2 fw9_100 k_468 rfl ⟨by decide, by decide⟩ rfl rfl rfl ?_
  refine x_iconst (0) dX9_kept_5 rfl ?_
  refine x_istore_n (lv' := [(1, iv 0), (0, rv g 468)]) dX9_kept_6 rfl (Nat.le_of_ble_eq_true rfl) rfl ?_
  refine x_iconst (0) dX9_kept_7 rfl ?_
  refine x_istore_n (lv' := [(2, iv 0), (1, iv 0), (0, rv g 468)]) dX9_kept_8 rfl (Nat.le_of_ble_eq_true rfl) rfl ?_
  refine x_sub [2, 1, 0] rfl ?_
  exact h_9 _ _ _ (by omega) (by omega) (by exact (sm_0 _).symm) (by omega) (Nat.lt_succ_self _)

set_option maxHeartbeats 600000 in
set_option maxRecDepth 100000 in
theorem c_X9_sharing (g : GG) (M : Mem) (r t : Int) (I : RB M) (hr : rg r) (ht : rg t) : Ct g yX9_sharing cX9_sharing 6 (some .int) 3 [rv g 468, iv r, iv t] M (pI (fun z M' => ∃ c, M' = up M 468 0 c ∧ ((c = 1 ∧ (r < 0 ∨ M 468 18 ≤ r ∨ (0 ≤ r ∧ r < M 468 18 ∧ (t < 0 ∨ (M 476 ((M 482 (r)))) ≤ t)))) ∨ (c = 0 ∧ 0 ≤ r ∧ r < M 468 18 ∧ 0 ≤ t ∧ t < (M 476 ((M 482 (r)))) ∧ z = shr M r t)))) := by
  refine ct_of (by decide +kernel) (Nat.le_of_ble_eq_true rfl) ?_
  show Ok g mX9_sharing (rmd 3) (FQ g (pI (fun z M' => ∃ c, M' = up M 468 0 c ∧ ((c = 1 ∧ (r < 0 ∨ M 468 18 ≤ r ∨ (0 ≤ r ∧ r < M 468 18 ∧ (t < 0 ∨ (M 476 ((M 482 (r)))) ≤ t)))) ∨ (c = 0 ∧ 0 ≤ r ∧ r < M 468 18 ∧ 0 ≤ t ∧ t < (M 476 ((M 482 (r)))) ∧ z = shr M r t))))) 0 [(0, rv g 468), (1, iv r), (2, iv t)] [] M
  have i0 := I.rng
  have hr1 := hr.1
  have hr2 := hr.2
  have ht1 := ht.1
  have ht2 := ht.2
  have h_28 : ∀ (n_28 : Nat) (c : Int) (q : Int), (0 ≤ r ∧ r < M 468 18 ∧ 0 ≤ t ∧ t < (M 476 ((M 482 (r))))) → (0 ≤ q) → (q ≤ M 468 18) → (c = sm (fun q => cnt (fun u => Lik M r t q u) ((M 476 ((M 482 (q)))))) q) → (0 ≤ c ∧ c ≤ 6 * q) → (M 468 18 - q).toNat < n_28 → Ok g mX9_sharing (rmd 3) (FQ g (pI (fun z M' => ∃ c, M' = up M 468 0 c ∧ ((c = 1 ∧ (r < 0 ∨ M 468 18 ≤ r ∨ (0 ≤ r ∧ r < M 468 18 ∧ (t < 0 ∨ (M 476 ((M 482 (r)))) ≤ t)))) ∨ (c = 0 ∧ 0 ≤ r ∧ r < M 468 18 ∧ 0 ≤ t ∧ t < (M 476 ((M 482 (r)))) ∧ z = shr M r t))))) 28 [(0, rv g 468), (1, iv r), (2, iv t), (3, iv c), (4, iv q)] [] (up M 468 0 0) := by
    intro n_28
    induction n_28 with
    | zero => intro c q g0 j0 j1 j2 j3 hn_28; exact absurd hn_28 (Nat.not_lt_zero _)
    | succ n_28 ih_28 =>
      intro c q g0 j0 j1 j2 j3 hn_28
      refine x_iload 4 dX9_sharing_28 rfl ?_
      refine x_aload_n 0 dX9_sharing_30 rfl rfl ?_
      refine x_geti (k := 18) (kI := 18) dX9_sharing_31 fl9_130 k_468 rfl rfl (fun ⟨a1, a1'⟩ => ?_)
      have e2 : (up M 468 0 0) 468 18 = M 468 18 := (by simp (disch := omega) only [up_s, up_o, up_k])
      simp only [e2] at a1 a1' ⊢
      refine x_icmp_ge (tgt := 90) dX9_sharing_34 (by decide) ⟨by omega, by omega⟩ ⟨by omega, by omega⟩ (fun c3 => ?_) (fun c3 => ?_)
      · refine x_iload_n 3 dX9_sharing_90 rfl rfl ?_
        refine x_iret dX9_sharing_91 rfl rfl ?_
        exact ⟨_, rfl, 0, rfl, Or.inr ⟨rfl, g0.1, g0.2.1, g0.2.2.1, g0.2.2.2, by rw [j2, show q = M 468 18 by omega]; rfl⟩⟩
      · have i1 := I.run q (by omega) (by omega)
        have i2 := I.prob (M 482 q) (by omega) (by omega)
        refine x_iconst (0) dX9_sharing_37 rfl ?_
        refine x_istore (lv' := [(5, iv 0), (0, rv g 468), (1, iv r), (2, iv t), (3, iv c), (4, iv q)]) dX9_sharing_38 (Nat.le_of_ble_eq_true rfl) rfl ?_
        have h_40 : ∀ (n_40 : Nat) (e : Int) (u : Int), (0 ≤ u) → (u ≤ (M 476 ((M 482 (q))))) → (e = c + cnt (fun u => Lik M r t q u) u) → (0 ≤ e ∧ e ≤ c + u) → ((M 476 ((M 482 (q)))) - u).toNat < n_40 → Ok g mX9_sharing (rmd 3) (FQ g (pI (fun z M' => ∃ c, M' = up M 468 0 c ∧ ((c = 1 ∧ (r < 0 ∨ M 468 18 ≤ r ∨ (0 ≤ r ∧ r < M 468 18 ∧ (t < 0 ∨ (M 476 ((M 482 (r)))) ≤ t)))) ∨ (c = 0 ∧ 0 ≤ r ∧ r < M 468 18 ∧ 0 ≤ t ∧ t < (M 476 ((M 482 (r)))) ∧ z = shr M r t))))) 40 [(0, rv g 468), (1, iv r), (2, iv t), (3, iv e), (4, iv q), (5, iv u)] [] (up M 468 0 0) := by
          intro n_40
          induction n_40 with
          | zero => intro e u l0 l1 l2 l3 hn_40; exact absurd hn_40 (Nat.not_lt_zero _)
          | succ n_40 ih_40 =>
            intro e u l0 l1 l2 l3 hn_40
            refine x_iload 5 dX9_sharing_40 rfl ?_
            refine x_aload_n 0 dX9_sharing_42 rfl rfl ?_
            refine x_getr (k := 12) (d := 8) dX9_sharing_43 fl9_32 k_468 rfl (fun k4 => ?_)
            have k4 : isK 20 5 476 := k4
            show Ok g mX9_sharing (rmd 3) (FQ g (pI (fun z M' => ∃ c, M' = up M 468 0 c ∧ ((c = 1 ∧ (r < 0 ∨ M 468 18 ≤ r ∨ (0 ≤ r ∧ r < M 468 18 ∧ (t < 0 ∨ (M 476 ((M 482 (r)))) ≤ t)))) ∨ (c = 0 ∧ 0 ≤ r ∧ r < M 468 18 ∧ 0 ≤ t ∧ t < (M 476 ((M 482 (r)))) ∧ z = shr M r t))))) 46 [(0, rv g 468), (1, iv r), (2, iv t), (3, iv e), (4, iv q), (5, iv u)] [rv g 476, iv u] (up M 468 0 0)
            refine x_aload_n 0 dX9_sharing_46 rfl rfl ?_
            refine x_getr (k := 20) (d := 14) dX9_sharing_47 fl9_50 k_468 rfl (fun k5 => ?_)
            have k5 : isK 20 40 482 := k5
            show Ok g mX9_sharing (rmd 3) (FQ g (pI (fun z M' => ∃ c, M' = up M 468 0 c ∧ ((c = 1 ∧ (r < 0 ∨ M 468 18 ≤ r ∨ (0 ≤ r ∧ r < M 468 18 ∧ (t < 0 ∨ (M 476 ((M 482 (r)))) ≤ t)))) ∨ (c = 0 ∧ 0 ≤ r ∧ r < M 468 18 ∧ 0 ≤ t ∧ t < (M 476 ((M 482 (r)))) ∧ z = shr M r t))))) 50 [(0, rv g 468), (1, iv r), (2, iv t), (3, iv e), (4, iv q), (5, iv u)] [rv g 482, rv g 476, iv u] (up M 468 0 0)
            refine x_iload 4 dX9_sharing_50 rfl ?_
            refine x_iald dX9_sharing_52 k5 (by omega) (by omega) (by decide) (fun ⟨a6, a6'⟩ => ?_)
            have e7 : (up M 468 0 0) 482 q = M 482 q := (by simp (disch := omega) only [up_s, up_o, up_k])
            simp only [e7] at a6 a6' ⊢
            refine x_iald dX9_sharing_53 k4 (by omega) (by omega) (by decide) (fun ⟨a8, a8'⟩ => ?_)
            have e9 : (up M 468 0 0) 476 (M 482 q) = M 476 (M 482 q) := (by simp (disch := omega) only [up_s, up_o, up_k])
            simp only [e9] at a8 a8' ⊢
            refine x_icmp_ge (tgt := 84) dX9_sharing_54 (by decide) ⟨by omega, by omega⟩ ⟨by omega, by omega⟩ (fun c10 => ?_) (fun c10 => ?_)
            · refine x_iinc (z := q) (lv' := [(4, iv (q + 1)), (0, rv g 468), (1, iv r), (2, iv t), (3, iv e), (5, iv u)]) 4 dX9_sharing_84 rfl (Nat.le_of_ble_eq_true rfl) rfl ?_
              refine x_goto (tgt := 28) dX9_sharing_87 (by decide) ?_
              refine x_sub [1, 2, 3, 4, 0] rfl ?_
              exact ih_28 _ _ (by omega) (by omega) (by omega) (by rw [sm_s (by omega), ← j2, l2, show u = M 476 (M 482 q) by omega]) (by have u9 := cnt_range (fun u => Lik M r t q u) (n := u) (by omega); omega) (by omega)
            · refine x_iload_n 3 dX9_sharing_57 rfl rfl ?_
              refine x_aload_n 0 dX9_sharing_58 rfl rfl ?_
              refine x_iload_n 1 dX9_sharing_59 rfl rfl ?_
              refine x_iload_n 2 dX9_sharing_60 rfl rfl ?_
              refine x_iload 4 dX9_sharing_61 rfl ?_
              refine x_iload 5 dX9_sharing_63 rfl ?_
              refine x_callVIP (as := [iv r, iv t, iv q, iv u]) (rest := [iv e]) dX9_sharing_65 vl9_202 k_468 (c_X9_areAlike g (up M 468 0 0) r t q u (I.code 0) (by omega) (by rw [up_code (by omega)]; omega) (by omega) (by rw [up_code (by omega), up_code (by omega)]; omega) (by omega) (by rw [up_code (by omega)]; omega) (by omega) (by rw [up_code (by omega), up_code (by omega)]; omega)) rfl rfl (Nat.le_of_ble_eq_true rfl) ⟨Nat.le_of_ble_eq_true rfl, Nat.le_of_ble_eq_true rfl⟩ (fun z11 h12 => ?_)
              rw [Lik_code] at h12
              refine x_if_eq (tgt := 75) dX9_sharing_68 (by decide) ⟨by omega, by omega⟩ (fun c14 => ?_) (fun c14 => ?_)
              · refine x_iconst (0) dX9_sharing_75 rfl ?_
                refine x_iadd dX9_sharing_76 ?_
                refine x_istore_n (lv' := [(3, iv (e + 0)), (0, rv g 468), (1, iv r), (2, iv t), (4, iv q), (5, iv u)]) dX9_sharing_77 rfl (Nat.le_of_ble_eq_true rfl) rfl ?_
                refine x_iinc (z := u) (lv' := [(5, iv (u + 1)), (3, iv (e + 0)), (0, rv g 468), (1, iv r), (2, iv t), (4, iv q)]) 5 dX9_sharing_78 rfl (Nat.le_of_ble_eq_true rfl) rfl ?_
                refine x_goto (tgt := 40) dX9_sharing_81 (by decide) ?_
                refine x_sub [2, 3, 4, 1, 5, 0] rfl ?_
                exact ih_40 _ _ (by omega) (by omega) (by rw [cnt_f (by omega) (by ((clear ih_28 ih_40; grind)))]; omega) (by omega) (by omega)
              · refine x_iconst (1) dX9_sharing_71 rfl ?_
                refine x_goto (tgt := 76) dX9_sharing_72 (by decide) ?_
                refine x_iadd dX9_sharing_76 ?_
                refine x_istore_n (lv' := [(3, iv (e + 1)), (0, rv g 468), (1, iv r), (2, iv t), (4, iv q), (5, iv u)]) dX9_sharing_77 rfl (Nat.le_of_ble_eq_true rfl) rfl ?_
                refine x_iinc (z := u) (lv' := [(5, iv (u + 1)), (3, iv (e + 1)), (0, rv g 468), (1, iv r), (2, iv t), (4, iv q)]) 5 dX9_sharing_78 rfl (Nat.le_of_ble_eq_true rfl) rfl ?_
                refine x_goto (tgt := 40) dX9_sharing_81 (by decide) ?_
                refine x_sub [2, 3, 4, 1, 5, 0] rfl ?_
                exact ih_40 _ _ (by omega) (by omega) (by rw [cnt_t (by omega) ((by (clear ih_28 ih_40; grind)))]; omega) (by omega) (by omega)
        refine x_sub [1, 2, 3, 4, 5, 0] rfl ?_
        exact h_40 _ _ _ (by omega) (by omega) (by rw [cnt_0]; omega) (by omega) (Nat.lt_succ_self _)
  refine x_aload_n 0 dX9_sharing_0 rfl rfl ?_
  refine x_aload_n 0 dX9_sharing_1 rfl rfl ?_
  refine x_iload_n 1 dX9_sharing_2 rfl rfl ?_
  refine x_iload_n 2 dX9_sharing_3 rfl rfl ?_
  refine x_callVIP (as := [iv r, iv t]) (rest := [rv g 468]) dX9_sharing_4 vl9_196 k_468 (c_X9_isNoTest g M r t I ⟨by omega, by omega⟩ ⟨by omega, by omega⟩) rfl rfl (Nat.le_of_ble_eq_true rfl) ⟨Nat.le_of_ble_eq_true rfl, Nat.le_of_ble_eq_true rfl⟩ (fun z15 h16 => ?_)
  refine x_if_eq (tgt := 14) dX9_sharing_7 (by decide) ⟨by omega, by omega⟩ (fun c18 => ?_) (fun c18 => ?_)
  · refine x_iconst (0) dX9_sharing_14 rfl ?_
    refine x_callVIP (as := [iv 0]) (rest := []) dX9_sharing_15 vl9_114 k_468 (c_X9_fails g M 0 (by omega) (by omega)) rfl rfl (Nat.le_of_ble_eq_true rfl) ⟨Nat.le_of_ble_eq_true rfl, Nat.le_of_ble_eq_true rfl⟩ (fun z19 h20 => ?_)
    refine x_if_eq (tgt := 23) dX9_sharing_18 (by decide) ⟨by omega, by omega⟩ (fun c22 => ?_) (fun c22 => ?_)
    · refine x_iconst (0) dX9_sharing_23 rfl ?_
      refine x_istore_n (lv' := [(3, iv 0), (0, rv g 468), (1, iv r), (2, iv t)]) dX9_sharing_24 rfl (Nat.le_of_ble_eq_true rfl) rfl ?_
      refine x_iconst (0) dX9_sharing_25 rfl ?_
      refine x_istore (lv' := [(4, iv 0), (3, iv 0), (0, rv g 468), (1, iv r), (2, iv t)]) dX9_sharing_26 (Nat.le_of_ble_eq_true rfl) rfl ?_
      refine x_sub [2, 3, 4, 1, 0] rfl ?_
      exact h_28 _ _ _ (by omega) (by omega) (by omega) (by exact (sm_0 _).symm) (by omega) (Nat.lt_succ_self _)
    · refine x_iconst (0) dX9_sharing_21 rfl ?_
      refine x_iret dX9_sharing_22 rfl rfl ?_
      exact ⟨_, rfl, 0, rfl, by omega⟩
  · refine x_iconst (1) dX9_sharing_10 rfl ?_
    refine x_goto (tgt := 15) dX9_sharing_11 (by decide) ?_
    refine x_callVIP (as := [iv 1]) (rest := []) dX9_sharing_15 vl9_114 k_468 (c_X9_fails g M 1 (by omega) (by omega)) rfl rfl (Nat.le_of_ble_eq_true rfl) ⟨Nat.le_of_ble_eq_true rfl, Nat.le_of_ble_eq_true rfl⟩ (fun z23 h24 => ?_)
    refine x_if_eq (tgt := 23) dX9_sharing_18 (by decide) ⟨by omega, by omega⟩ (fun c26 => ?_) (fun c26 => ?_)
    · refine x_iconst (0) dX9_sharing_23 rfl ?_
      refine x_istore_n (lv' := [(3, iv 0), (0, rv g 468), (1, iv r), (2, iv t)]) dX9_sharing_24 rfl (Nat.le_of_ble_eq_true rfl) rfl ?_
      refine x_iconst (0) dX9_sharing_25 rfl ?_
      refine x_istore (lv' := [(4, iv 0), (3, iv 0), (0, rv g 468), (1, iv r), (2, iv t)]) dX9_sharing_26 (Nat.le_of_ble_eq_true rfl) rfl ?_
      refine x_sub [2, 3, 4, 1, 0] rfl ?_
      exfalso; omega
    · refine x_iconst (0) dX9_sharing_21 rfl ?_
      refine x_iret dX9_sharing_22 rfl rfl ?_
      exact ⟨_, rfl, 1, rfl, by omega⟩

set_option maxHeartbeats 600000 in
set_option maxRecDepth 100000 in
theorem c_X9_out (g : GG) (M : Mem) (q : Int) (I : RB M) (hq : rg q) : Ct g yX9_out cX9_out 5 (some .int) 3 [rv g 468, iv q] M (pI (fun z M' => ∃ c, M' = up M 468 0 c ∧ ((c = 1 ∧ (q < 0 ∨ 3 < q)) ∨ (c = 0 ∧ 0 ≤ q ∧ q ≤ 3 ∧ z = outc M q)))) := by
  refine ct_of (by decide +kernel) (Nat.le_of_ble_eq_true rfl) ?_
  show Ok g mX9_out (rmd 3) (FQ g (pI (fun z M' => ∃ c, M' = up M 468 0 c ∧ ((c = 1 ∧ (q < 0 ∨ 3 < q)) ∨ (c = 0 ∧ 0 ≤ q ∧ q ≤ 3 ∧ z = outc M q))))) 0 [(0, rv g 468), (1, iv q)] [] M
  have i0 := I.rng
  have hq1 := hq.1
  have hq2 := hq.2
  have h_25 : ∀ (n_25 : Nat) (c : Int) (t : Int), (0 ≤ q ∧ q ≤ 3) → (0 ≤ t) → (t ≤ M 468 17) → (c = sm (fun t => cnt (fun p => (M 474 (p)) = q ∧ (M 493 (5 * t + p)) = 111) (M 468 9)) t) → (0 ≤ c ∧ c ≤ 5 * t) → (M 468 17 - t).toNat < n_25 → Ok g mX9_out (rmd 3) (FQ g (pI (fun z M' => ∃ c, M' = up M 468 0 c ∧ ((c = 1 ∧ (q < 0 ∨ 3 < q)) ∨ (c = 0 ∧ 0 ≤ q ∧ q ≤ 3 ∧ z = outc M q))))) 25 [(0, rv g 468), (1, iv q), (2, iv c), (3, iv t)] [] (up M 468 0 0) := by
    intro n_25
    induction n_25 with
    | zero => intro c t g0 j0 j1 j2 j3 hn_25; exact absurd hn_25 (Nat.not_lt_zero _)
    | succ n_25 ih_25 =>
      intro c t g0 j0 j1 j2 j3 hn_25
      refine x_iload_n 3 dX9_out_25 rfl rfl ?_
      refine x_aload_n 0 dX9_out_26 rfl rfl ?_
      refine x_geti (k := 17) (kI := 17) dX9_out_27 fl9_127 k_468 rfl rfl (fun ⟨a1, a1'⟩ => ?_)
      have e2 : (up M 468 0 0) 468 17 = M 468 17 := (by simp (disch := omega) only [up_s, up_o, up_k])
      simp only [e2] at a1 a1' ⊢
      refine x_icmp_ge (tgt := 92) dX9_out_30 (by decide) ⟨by omega, by omega⟩ ⟨by omega, by omega⟩ (fun c3 => ?_) (fun c3 => ?_)
      · refine x_iload_n 2 dX9_out_92 rfl rfl ?_
        refine x_iret dX9_out_93 rfl rfl ?_
        exact ⟨_, rfl, 0, rfl, Or.inr ⟨rfl, g0.1, g0.2, by rw [j2, show t = M 468 17 by omega]; rfl⟩⟩
      · refine x_iconst (0) dX9_out_33 rfl ?_
        refine x_istore (lv' := [(4, iv 0), (0, rv g 468), (1, iv q), (2, iv c), (3, iv t)]) dX9_out_34 (Nat.le_of_ble_eq_true rfl) rfl ?_
        have h_36 : ∀ (n_36 : Nat) (e : Int) (p : Int), (0 ≤ p) → (p ≤ M 468 9) → (e = c + cnt (fun p => (M 474 (p)) = q ∧ (M 493 (5 * t + p)) = 111) p) → (0 ≤ e ∧ e ≤ c + p) → (M 468 9 - p).toNat < n_36 → Ok g mX9_out (rmd 3) (FQ g (pI (fun z M' => ∃ c, M' = up M 468 0 c ∧ ((c = 1 ∧ (q < 0 ∨ 3 < q)) ∨ (c = 0 ∧ 0 ≤ q ∧ q ≤ 3 ∧ z = outc M q))))) 36 [(0, rv g 468), (1, iv q), (2, iv e), (3, iv t), (4, iv p)] [] (up M 468 0 0) := by
          intro n_36
          induction n_36 with
          | zero => intro e p l0 l1 l2 l3 hn_36; exact absurd hn_36 (Nat.not_lt_zero _)
          | succ n_36 ih_36 =>
            intro e p l0 l1 l2 l3 hn_36
            refine x_iload 4 dX9_out_36 rfl ?_
            refine x_aload_n 0 dX9_out_38 rfl rfl ?_
            refine x_geti (k := 9) (kI := 9) dX9_out_39 fl9_124 k_468 rfl rfl (fun ⟨a4, a4'⟩ => ?_)
            have e5 : (up M 468 0 0) 468 9 = M 468 9 := (by simp (disch := omega) only [up_s, up_o, up_k])
            simp only [e5] at a4 a4' ⊢
            refine x_icmp_ge (tgt := 86) dX9_out_42 (by decide) ⟨by omega, by omega⟩ ⟨by omega, by omega⟩ (fun c6 => ?_) (fun c6 => ?_)
            · refine x_iinc (z := t) (lv' := [(3, iv (t + 1)), (0, rv g 468), (1, iv q), (2, iv e), (4, iv p)]) 3 dX9_out_86 rfl (Nat.le_of_ble_eq_true rfl) rfl ?_
              refine x_goto (tgt := 25) dX9_out_89 (by decide) ?_
              refine x_sub [1, 2, 3, 0] rfl ?_
              exact ih_25 _ _ (by omega) (by omega) (by omega) (by rw [sm_s (by omega), ← j2, l2, show p = M 468 9 by omega]) (by have u9 := cnt_range (fun p => M 474 p = q ∧ M 493 (5 * t + p) = 111) (n := p) (by omega); omega) (by omega)
            · refine x_iload_n 2 dX9_out_45 rfl rfl ?_
              refine x_aload_n 0 dX9_out_46 rfl rfl ?_
              refine x_getr (k := 10) (d := 6) dX9_out_47 fl9_26 k_468 rfl (fun k7 => ?_)
              have k7 : isK 20 5 474 := k7
              show Ok g mX9_out (rmd 3) (FQ g (pI (fun z M' => ∃ c, M' = up M 468 0 c ∧ ((c = 1 ∧ (q < 0 ∨ 3 < q)) ∨ (c = 0 ∧ 0 ≤ q ∧ q ≤ 3 ∧ z = outc M q))))) 50 [(0, rv g 468), (1, iv q), (2, iv e), (3, iv t), (4, iv p)] [rv g 474, iv e] (up M 468 0 0)
              refine x_iload 4 dX9_out_50 rfl ?_
              refine x_iald dX9_out_52 k7 (by omega) (by omega) (by decide) (fun ⟨a8, a8'⟩ => ?_)
              have e9 : (up M 468 0 0) 474 p = M 474 p := (by simp (disch := omega) only [up_s, up_o, up_k])
              simp only [e9] at a8 a8' ⊢
              refine x_iload_n 1 dX9_out_53 rfl rfl ?_
              refine x_icmp_ne (tgt := 77) dX9_out_54 (by decide) ⟨by omega, by omega⟩ ⟨by omega, by omega⟩ (fun c10 => ?_) (fun c10 => ?_)
              · refine x_iconst (0) dX9_out_77 rfl ?_
                refine x_iadd dX9_out_78 ?_
                refine x_istore_n (lv' := [(2, iv (e + 0)), (0, rv g 468), (1, iv q), (3, iv t), (4, iv p)]) dX9_out_79 rfl (Nat.le_of_ble_eq_true rfl) rfl ?_
                refine x_iinc (z := p) (lv' := [(4, iv (p + 1)), (2, iv (e + 0)), (0, rv g 468), (1, iv q), (3, iv t)]) 4 dX9_out_80 rfl (Nat.le_of_ble_eq_true rfl) rfl ?_
                refine x_goto (tgt := 36) dX9_out_83 (by decide) ?_
                refine x_sub [2, 3, 1, 4, 0] rfl ?_
                exact ih_36 _ _ (by omega) (by omega) (by rw [cnt_f (by omega) (by omega)]; omega) (by omega) (by omega)
              · refine x_aload_n 0 dX9_out_57 rfl rfl ?_
                refine x_getr (k := 31) (d := 25) dX9_out_58 fl9_83 k_468 rfl (fun k11 => ?_)
                have k11 : isK 21 40 493 := k11
                show Ok g mX9_out (rmd 3) (FQ g (pI (fun z M' => ∃ c, M' = up M 468 0 c ∧ ((c = 1 ∧ (q < 0 ∨ 3 < q)) ∨ (c = 0 ∧ 0 ≤ q ∧ q ≤ 3 ∧ z = outc M q))))) 61 [(0, rv g 468), (1, iv q), (2, iv e), (3, iv t), (4, iv p)] [rv g 493, iv e] (up M 468 0 0)
                refine x_iconst (5) dX9_out_61 rfl ?_
                refine x_iload_n 3 dX9_out_62 rfl rfl ?_
                refine x_imul dX9_out_63 ?_
                refine x_iload 4 dX9_out_64 rfl ?_
                refine x_iadd dX9_out_66 ?_
                refine x_cald dX9_out_67 k11 (by omega) (by omega) (by decide) (fun ⟨a12, a12'⟩ => ?_)
                have e13 : (up M 468 0 0) 493 ((5 * t) + p) = M 493 ((5 * t) + p) := (by simp (disch := omega) only [up_s, up_o, up_k])
                simp only [e13] at a12 a12' ⊢
                refine x_bipush (111) dX9_out_68 rfl ?_
                refine x_icmp_ne (tgt := 77) dX9_out_70 (by decide) ⟨by omega, by omega⟩ ⟨by decide, by decide⟩ (fun c14 => ?_) (fun c14 => ?_)
                · refine x_iconst (0) dX9_out_77 rfl ?_
                  refine x_iadd dX9_out_78 ?_
                  refine x_istore_n (lv' := [(2, iv (e + 0)), (0, rv g 468), (1, iv q), (3, iv t), (4, iv p)]) dX9_out_79 rfl (Nat.le_of_ble_eq_true rfl) rfl ?_
                  refine x_iinc (z := p) (lv' := [(4, iv (p + 1)), (2, iv (e + 0)), (0, rv g 468), (1, iv q), (3, iv t)]) 4 dX9_out_80 rfl (Nat.le_of_ble_eq_true rfl) rfl ?_
                  refine x_goto (tgt := 36) dX9_out_83 (by decide) ?_
                  refine x_sub [2, 3, 1, 4, 0] rfl ?_
                  exact ih_36 _ _ (by omega) (by omega) (by rw [cnt_f (by omega) (by omega)]; omega) (by omega) (by omega)
                · refine x_iconst (1) dX9_out_73 rfl ?_
                  refine x_goto (tgt := 78) dX9_out_74 (by decide) ?_
                  refine x_iadd dX9_out_78 ?_
                  refine x_istore_n (lv' := [(2, iv (e + 1)), (0, rv g 468), (1, iv q), (3, iv t), (4, iv p)]) dX9_out_79 rfl (Nat.le_of_ble_eq_true rfl) rfl ?_
                  refine x_iinc (z := p) (lv' := [(4, iv (p + 1)), (2, iv (e + 1)), (0, rv g 468), (1, iv q), (3, iv t)]) 4 dX9_out_80 rfl (Nat.le_of_ble_eq_true rfl) rfl ?_
                  refine x_goto (tgt := 36) dX9_out_83 (by decide) ?_
                  refine x_sub [2, 3, 1, 4, 0] rfl ?_
                  exact ih_36 _ _ (by omega) (by omega) (by rw [cnt_t (by omega) (⟨by omega, by omega⟩)]; omega) (by omega) (by omega)
        refine x_sub [1, 2, 3, 4, 0] rfl ?_
        exact h_36 _ _ _ (by omega) (by omega) (by rw [cnt_0]; omega) (by omega) (Nat.lt_succ_self _)
  refine x_aload_n 0 dX9_out_0 rfl rfl ?_
  refine x_iload_n 1 dX9_out_1 rfl rfl ?_
  refine x_callSIP (as := [iv q]) (rest := [rv g 468]) dX9_out_2 sl9_206 (c_X9_isNoColour g M q ⟨by omega, by omega⟩) rfl rfl (Nat.le_of_ble_eq_true rfl) ⟨Nat.le_of_ble_eq_true rfl, Nat.le_of_ble_eq_true rfl⟩ (fun z15 h16 => ?_)
  refine x_if_eq (tgt := 12) dX9_out_5 (by decide) ⟨by omega, by omega⟩ (fun c18 => ?_) (fun c18 => ?_)
  · refine x_iconst (0) dX9_out_12 rfl ?_
    refine x_callVIP (as := [iv 0]) (rest := []) dX9_out_13 vl9_114 k_468 (c_X9_fails g M 0 (by omega) (by omega)) rfl rfl (Nat.le_of_ble_eq_true rfl) ⟨Nat.le_of_ble_eq_true rfl, Nat.le_of_ble_eq_true rfl⟩ (fun z19 h20 => ?_)
    refine x_if_eq (tgt := 21) dX9_out_16 (by decide) ⟨by omega, by omega⟩ (fun c22 => ?_) (fun c22 => ?_)
    · refine x_iconst (0) dX9_out_21 rfl ?_
      refine x_istore_n (lv' := [(2, iv 0), (0, rv g 468), (1, iv q)]) dX9_out_22 rfl (Nat.le_of_ble_eq_true rfl) rfl ?_
      refine x_iconst (0) dX9_out_23 rfl ?_
      refine x_istore_n (lv' := [(3, iv 0), (2, iv 0), (0, rv g 468), (1, iv q)]) dX9_out_24 rfl (Nat.le_of_ble_eq_true rfl) rfl ?_
      refine x_sub [2, 3, 1, 0] rfl ?_
      exact h_25 _ _ _ (by omega) (by omega) (by omega) (by exact (sm_0 _).symm) (by omega) (Nat.lt_succ_self _)
    · refine x_iconst (0) dX9_out_19 rfl ?_
      refine x_iret dX9_out_20 rfl rfl ?_
      exact ⟨_, rfl, 0, rfl, by omega⟩
  · refine x_iconst (1) dX9_out_8 rfl ?_
    refine x_goto (tgt := 13) dX9_out_9 (by decide) ?_
    refine x_callVIP (as := [iv 1]) (rest := []) dX9_out_13 vl9_114 k_468 (c_X9_fails g M 1 (by omega) (by omega)) rfl rfl (Nat.le_of_ble_eq_true rfl) ⟨Nat.le_of_ble_eq_true rfl, Nat.le_of_ble_eq_true rfl⟩ (fun z23 h24 => ?_)
    refine x_if_eq (tgt := 21) dX9_out_16 (by decide) ⟨by omega, by omega⟩ (fun c26 => ?_) (fun c26 => ?_)
    · refine x_iconst (0) dX9_out_21 rfl ?_
      refine x_istore_n (lv' := [(2, iv 0), (0, rv g 468), (1, iv q)]) dX9_out_22 rfl (Nat.le_of_ble_eq_true rfl) rfl ?_
      refine x_iconst (0) dX9_out_23 rfl ?_
      refine x_istore_n (lv' := [(3, iv 0), (2, iv 0), (0, rv g 468), (1, iv q)]) dX9_out_24 rfl (Nat.le_of_ble_eq_true rfl) rfl ?_
      refine x_sub [2, 3, 1, 0] rfl ?_
      exfalso; omega
    · refine x_iconst (0) dX9_out_19 rfl ?_
      refine x_iret dX9_out_20 rfl rfl ?_
      exact ⟨_, rfl, 1, rfl, by omega⟩

set_option maxHeartbeats 600000 in
set_option maxRecDepth 100000 in
theorem c_X9_calledBack (g : GG) (M : Mem)  (I : RB M) : Ct g yX9_calledBack cX9_calledBack 1 (some .int) 1 [rv g 468] M (pIP (fun z => z = M 468 35) (up M 468 0 0)) := by
  refine ct_of (by decide +kernel) (Nat.le_of_ble_eq_true rfl) ?_
  show Ok g mX9_calledBack (rmd 1) (FQ g (pIP (fun z => z = M 468 35) (up M 468 0 0))) 0 [(0, rv g 468)] [] M
  refine x_aload_n 0 dX9_calledBack_0 rfl rfl ?_
  refine x_iconst (0) dX9_calledBack_1 rfl ?_
  refine x_puti (k := 0) (kI := 0) dX9_calledBack_2 fw9_100 k_468 rfl ⟨by decide, by decide⟩ rfl rfl rfl ?_
  refine x_aload_n 0 dX9_calledBack_5 rfl rfl ?_
  refine x_geti (k := 35) (kI := 35) dX9_calledBack_6 fl9_174 k_468 rfl rfl (fun ⟨a1, a1'⟩ => ?_)
  have e2 : (up M 468 0 0) 468 35 = M 468 35 := (by simp (disch := omega) only [up_s, up_o, up_k])
  simp only [e2] at a1 a1' ⊢
  refine x_iret dX9_calledBack_9 rfl rfl ?_
  exact ⟨_, rfl, rfl, by omega⟩

set_option maxHeartbeats 600000 in
set_option maxRecDepth 100000 in
theorem c_X9_isTrue (g : GG) (M : Mem)  (I : RB M) : Ct g yX9_isTrue cX9_isTrue 1 (some .boolean) 1 [rv g 468] M (pIP (fun z => z = 1) (up M 468 0 0)) := by
  refine ct_of (by decide +kernel) (Nat.le_of_ble_eq_true rfl) ?_
  show Ok g mX9_isTrue (rmd 1) (FQ g (pIP (fun z => z = 1) (up M 468 0 0))) 0 [(0, rv g 468)] [] M
  refine x_aload_n 0 dX9_isTrue_0 rfl rfl ?_
  refine x_iconst (0) dX9_isTrue_1 rfl ?_
  refine x_puti (k := 0) (kI := 0) dX9_isTrue_2 fw9_100 k_468 rfl ⟨by decide, by decide⟩ rfl rfl rfl ?_
  refine x_iconst (1) dX9_isTrue_5 rfl ?_
  refine x_iret dX9_isTrue_6 rfl (iZ_bool (by omega)) ?_
  exact ⟨_, rfl, rfl, by omega⟩

set_option maxHeartbeats 600000 in
set_option maxRecDepth 100000 in
theorem c_X9_ranked (g : GG) (M : Mem) (k b : Int) (I : RB M) (hk : rg k) (b0 : b = 0 ∨ b = 1) : Ct g yX9_ranked cX9_ranked 5 (some .int) 7 [rv g 468, iv k, iv b] M (pI (fun z M' => ∃ c, M' = up M 468 0 c ∧ ((c = 1 ∧ ∀ t, 0 ≤ t → t < M 468 17 → ¬ 1 + cnt (fun q => q ≠ t ∧ Ahd M b q t) (M 468 17) = k) ∨ (c = 0 ∧ 0 ≤ z ∧ z < M 468 17 ∧ 1 + cnt (fun q => q ≠ z ∧ Ahd M b q z) (M 468 17) = k ∧ ∀ t, z < t → t < M 468 17 → ¬ 1 + cnt (fun q => q ≠ t ∧ Ahd M b q t) (M 468 17) = k)))) := by
  refine ct_of (by decide +kernel) (Nat.le_of_ble_eq_true rfl) ?_
  show Ok g mX9_ranked (rmd 7) (FQ g (pI (fun z M' => ∃ c, M' = up M 468 0 c ∧ ((c = 1 ∧ ∀ t, 0 ≤ t → t < M 468 17 → ¬ 1 + cnt (fun q => q ≠ t ∧ Ahd M b q t) (M 468 17) = k) ∨ (c = 0 ∧ 0 ≤ z ∧ z < M 468 17 ∧ 1 + cnt (fun q => q ≠ z ∧ Ahd M b q z) (M 468 17) = k ∧ ∀ t, z < t → t < M 468 17 → ¬ 1 + cnt (fun q => q ≠ t ∧ Ahd M b q t) (M 468 17) = k))))) 0 [(0, rv g 468), (1, iv k), (2, iv b)] [] M
  have i0 := I.rng
  have hk1 := hk.1
  have hk2 := hk.2
  have h_5 : ∀ (n_5 : Nat) (w : Int) (t : Int), (0 ≤ t) → (t ≤ M 468 17) → ((w = -1 ∧ ∀ s, 0 ≤ s → s < t → ¬ 1 + cnt (fun q => q ≠ s ∧ Ahd M b q s) (M 468 17) = k) ∨ (0 ≤ w ∧ w < t ∧ 1 + cnt (fun q => q ≠ w ∧ Ahd M b q w) (M 468 17) = k ∧ ∀ s, w < s → s < t → ¬ 1 + cnt (fun q => q ≠ s ∧ Ahd M b q s) (M 468 17) = k)) → (M 468 17 - t).toNat < n_5 → Ok g mX9_ranked (rmd 7) (FQ g (pI (fun z M' => ∃ c, M' = up M 468 0 c ∧ ((c = 1 ∧ ∀ t, 0 ≤ t → t < M 468 17 → ¬ 1 + cnt (fun q => q ≠ t ∧ Ahd M b q t) (M 468 17) = k) ∨ (c = 0 ∧ 0 ≤ z ∧ z < M 468 17 ∧ 1 + cnt (fun q => q ≠ z ∧ Ahd M b q z) (M 468 17) = k ∧ ∀ t, z < t → t < M 468 17 → ¬ 1 + cnt (fun q => q ≠ t ∧ Ahd M b q t) (M 468 17) = k))))) 5 [(0, rv g 468), (1, iv k), (2, iv b), (3, iv w), (4, iv t)] [] M := by
    intro n_5
    induction n_5 with
    | zero => intro w t j0 j1 j2 hn_5; exact absurd hn_5 (Nat.not_lt_zero _)
    | succ n_5 ih_5 =>
      intro w t j0 j1 j2 hn_5
      refine x_iload 4 dX9_ranked_5 rfl ?_
      refine x_aload_n 0 dX9_ranked_7 rfl rfl ?_
      refine x_geti (k := 17) (kI := 17) dX9_ranked_8 fl9_127 k_468 rfl rfl (fun ⟨a1, a1'⟩ => ?_)
      refine x_icmp_ge (tgt := 38) dX9_ranked_11 (by decide) ⟨by omega, by omega⟩ ⟨by omega, by omega⟩ (fun c2 => ?_) (fun c2 => ?_)
      · refine x_aload_n 0 dX9_ranked_38 rfl rfl ?_
        refine x_iload_n 3 dX9_ranked_39 rfl rfl ?_
        refine x_iconst (-1) dX9_ranked_40 rfl ?_
        refine x_icmp_ne (tgt := 48) dX9_ranked_41 (by decide) ⟨by omega, by omega⟩ ⟨by decide, by decide⟩ (fun c3 => ?_) (fun c3 => ?_)
        · refine x_iconst (0) dX9_ranked_48 rfl ?_
          refine x_callVIP (as := [iv 0]) (rest := []) dX9_ranked_49 vl9_114 k_468 (c_X9_fails g M 0 (by omega) (by omega)) rfl rfl (Nat.le_of_ble_eq_true rfl) ⟨Nat.le_of_ble_eq_true rfl, Nat.le_of_ble_eq_true rfl⟩ (fun z4 h5 => ?_)
          refine x_if_eq (tgt := 59) dX9_ranked_52 (by decide) ⟨by omega, by omega⟩ (fun c7 => ?_) (fun c7 => ?_)
          · refine x_iload_n 3 dX9_ranked_59 rfl rfl ?_
            refine x_iret dX9_ranked_60 rfl rfl ?_
            refine ⟨_, rfl, 0, rfl, Or.inr ⟨rfl, ?_⟩⟩
            rcases j2 with ⟨e1, e2⟩ | ⟨e1, e2, e3, e4⟩
            · omega
            · exact ⟨e1, by omega, e3, fun s s0 s1 => e4 s s0 (by omega)⟩
          · refine x_iconst (0) dX9_ranked_55 rfl ?_
            refine x_goto (tgt := 60) dX9_ranked_56 (by decide) ?_
            refine x_iret dX9_ranked_60 rfl rfl ?_
            exfalso; omega
        · refine x_iconst (1) dX9_ranked_44 rfl ?_
          refine x_goto (tgt := 49) dX9_ranked_45 (by decide) ?_
          refine x_callVIP (as := [iv 1]) (rest := []) dX9_ranked_49 vl9_114 k_468 (c_X9_fails g M 1 (by omega) (by omega)) rfl rfl (Nat.le_of_ble_eq_true rfl) ⟨Nat.le_of_ble_eq_true rfl, Nat.le_of_ble_eq_true rfl⟩ (fun z8 h9 => ?_)
          refine x_if_eq (tgt := 59) dX9_ranked_52 (by decide) ⟨by omega, by omega⟩ (fun c11 => ?_) (fun c11 => ?_)
          · refine x_iload_n 3 dX9_ranked_59 rfl rfl ?_
            refine x_iret dX9_ranked_60 rfl rfl ?_
            exfalso; omega
          · refine x_iconst (0) dX9_ranked_55 rfl ?_
            refine x_goto (tgt := 60) dX9_ranked_56 (by decide) ?_
            refine x_iret dX9_ranked_60 rfl rfl ?_
            refine ⟨_, rfl, 1, rfl, Or.inl ⟨rfl, ?_⟩⟩
            rcases j2 with ⟨e1, e2⟩ | ⟨e1, e2, e3, e4⟩
            · exact fun s s0 s1 => e2 s s0 (by omega)
            · omega
      · refine x_aload_n 0 dX9_ranked_14 rfl rfl ?_
        refine x_iload 4 dX9_ranked_15 rfl ?_
        refine x_iload_n 2 dX9_ranked_17 rfl rfl ?_
        refine x_callVIP (as := [iv t, iv b]) (rest := []) dX9_ranked_18 vl9_236 k_468 (c_X9_rankOf g M t b I (by omega) (by omega) b0) rfl rfl (Nat.le_of_ble_eq_true rfl) ⟨Nat.le_of_ble_eq_true rfl, Nat.le_of_ble_eq_true rfl⟩ (fun z12 h13 => ?_)
        have h13r := cnt_range (fun q => q ≠ t ∧ Ahd M b q t) (n := M 468 17) (by omega)
        refine x_iload_n 1 dX9_ranked_21 rfl rfl ?_
        refine x_icmp_ne (tgt := 30) dX9_ranked_22 (by decide) ⟨by omega, by omega⟩ ⟨by omega, by omega⟩ (fun c15 => ?_) (fun c15 => ?_)
        · refine x_iload_n 3 dX9_ranked_30 rfl rfl ?_
          refine x_istore_n (lv' := [(3, iv w), (0, rv g 468), (1, iv k), (2, iv b), (4, iv t)]) dX9_ranked_31 rfl (Nat.le_of_ble_eq_true rfl) rfl ?_
          refine x_iinc (z := t) (lv' := [(4, iv (t + 1)), (3, iv w), (0, rv g 468), (1, iv k), (2, iv b)]) 4 dX9_ranked_32 rfl (Nat.le_of_ble_eq_true rfl) rfl ?_
          refine x_goto (tgt := 5) dX9_ranked_35 (by decide) ?_
          refine x_sub [2, 3, 4, 1, 0] rfl ?_
          exact ih_5 _ _ (by omega) (by omega) (by rcases j2 with ⟨e1, e2⟩ | ⟨e1, e2, e3, e4⟩; left; exact ⟨e1, ext_lt e2 (by omega)⟩; right; refine ⟨e1, by omega, e3, fun s s0 s1 => ?_⟩; rcases Int.lt_or_eq_of_le (show s ≤ t by omega) with q | q; exact e4 s s0 q; subst q; omega) (by omega)
        · refine x_iload 4 dX9_ranked_25 rfl ?_
          refine x_goto (tgt := 31) dX9_ranked_27 (by decide) ?_
          refine x_istore_n (lv' := [(3, iv t), (0, rv g 468), (1, iv k), (2, iv b), (4, iv t)]) dX9_ranked_31 rfl (Nat.le_of_ble_eq_true rfl) rfl ?_
          refine x_iinc (z := t) (lv' := [(4, iv (t + 1)), (3, iv t), (0, rv g 468), (1, iv k), (2, iv b)]) 4 dX9_ranked_32 rfl (Nat.le_of_ble_eq_true rfl) rfl ?_
          refine x_goto (tgt := 5) dX9_ranked_35 (by decide) ?_
          refine x_sub [2, 3, 4, 1, 0] rfl ?_
          exact ih_5 _ _ (by omega) (by omega) (by right; exact ⟨by omega, by omega, by omega, fun s _ _ => by omega⟩) (by omega)
  refine x_iconst (-1) dX9_ranked_0 rfl ?_
  refine x_istore_n (lv' := [(3, iv ((-1))), (0, rv g 468), (1, iv k), (2, iv b)]) dX9_ranked_1 rfl (Nat.le_of_ble_eq_true rfl) rfl ?_
  refine x_iconst (0) dX9_ranked_2 rfl ?_
  refine x_istore (lv' := [(4, iv 0), (3, iv ((-1))), (0, rv g 468), (1, iv k), (2, iv b)]) dX9_ranked_3 (Nat.le_of_ble_eq_true rfl) rfl ?_
  refine x_sub [2, 3, 4, 1, 0] rfl ?_
  exact h_5 _ _ _ (by omega) (by omega) (by left; exact ⟨rfl, fun s _ _ => by omega⟩) (Nat.lt_succ_self _)

set_option maxHeartbeats 600000 in
set_option maxRecDepth 100000 in
theorem c_X9_checksum (g : GG) (M : Mem)  (I : RB M) : Ct g yX9_checksum cX9_checksum 6 (some .long) 1 [rv g 468] M (pLP (fun z => z = cks M) (up M 468 0 0)) := by
  refine ct_of (by decide +kernel) (Nat.le_of_ble_eq_true rfl) ?_
  show Ok g mX9_checksum (rmd 1) (FQ g (pLP (fun z => z = cks M) (up M 468 0 0))) 0 [(0, rv g 468)] [] M
  have i0 := I.rng
  have h_11 : ∀ (n_11 : Nat) (s : Int64) (r : Int), (0 ≤ r) → (r ≤ M 468 18) → (s = ckR (fun r t k => (M 490 (36 * r + 6 * t + k))) (fun r t => (M 491 (6 * r + t))) (fun r => (M 476 ((M 482 (r))))) r.toNat) → (M 468 18 - r).toNat < n_11 → Ok g mX9_checksum (rmd 1) (FQ g (pLP (fun z => z = cks M) (up M 468 0 0))) 11 [(0, rv g 468), (1, .long s), (3, iv r)] [] (up M 468 0 0) := by
    intro n_11
    induction n_11 with
    | zero => intro s r j0 j1 j2 hn_11; exact absurd hn_11 (Nat.not_lt_zero _)
    | succ n_11 ih_11 =>
      intro s r j0 j1 j2 hn_11
      refine x_iload_n 2 dX9_checksum_11 rfl rfl ?_
      refine x_aload_n 0 dX9_checksum_12 rfl rfl ?_
      refine x_geti (k := 18) (kI := 18) dX9_checksum_13 fl9_130 k_468 rfl rfl (fun ⟨a1, a1'⟩ => ?_)
      have e2 : (up M 468 0 0) 468 18 = M 468 18 := (by simp (disch := omega) only [up_s, up_o, up_k])
      simp only [e2] at a1 a1' ⊢
      refine x_icmp_ge (tgt := 112) dX9_checksum_16 (by decide) ⟨by omega, by omega⟩ ⟨by omega, by omega⟩ (fun c3 => ?_) (fun c3 => ?_)
      · refine x_lload_n 1 dX9_checksum_112 rfl rfl ?_
        refine x_lret dX9_checksum_113 rfl ?_
        exact ⟨_, rfl, rfl, by rw [j2, show r = M 468 18 by omega]; rfl⟩
      · have i1 := I.run r (by omega) (by omega)
        have i2 := I.prob (M 482 r) (by omega) (by omega)
        refine x_iconst (0) dX9_checksum_19 rfl ?_
        refine x_istore (lv' := [(4, iv 0), (0, rv g 468), (1, .long s), (3, iv r)]) dX9_checksum_20 (Nat.le_of_ble_eq_true rfl) rfl ?_
        have h_22 : ∀ (n_22 : Nat) (u : Int64) (t : Int), (0 ≤ t) → (t ≤ (M 476 ((M 482 (r))))) → (u = ckT (fun t k => (M 490 (36 * r + 6 * t + k))) (fun t => (M 491 (6 * r + t))) s t.toNat) → ((M 476 ((M 482 (r)))) - t).toNat < n_22 → Ok g mX9_checksum (rmd 1) (FQ g (pLP (fun z => z = cks M) (up M 468 0 0))) 22 [(0, rv g 468), (1, .long u), (3, iv r), (4, iv t)] [] (up M 468 0 0) := by
          intro n_22
          induction n_22 with
          | zero => intro u t l0 l1 l2 hn_22; exact absurd hn_22 (Nat.not_lt_zero _)
          | succ n_22 ih_22 =>
            intro u t l0 l1 l2 hn_22
            refine x_iload 3 dX9_checksum_22 rfl ?_
            refine x_aload_n 0 dX9_checksum_24 rfl rfl ?_
            refine x_getr (k := 12) (d := 8) dX9_checksum_25 fl9_32 k_468 rfl (fun k4 => ?_)
            have k4 : isK 20 5 476 := k4
            show Ok g mX9_checksum (rmd 1) (FQ g (pLP (fun z => z = cks M) (up M 468 0 0))) 28 [(0, rv g 468), (1, .long u), (3, iv r), (4, iv t)] [rv g 476, iv t] (up M 468 0 0)
            refine x_aload_n 0 dX9_checksum_28 rfl rfl ?_
            refine x_getr (k := 20) (d := 14) dX9_checksum_29 fl9_50 k_468 rfl (fun k5 => ?_)
            have k5 : isK 20 40 482 := k5
            show Ok g mX9_checksum (rmd 1) (FQ g (pLP (fun z => z = cks M) (up M 468 0 0))) 32 [(0, rv g 468), (1, .long u), (3, iv r), (4, iv t)] [rv g 482, rv g 476, iv t] (up M 468 0 0)
            refine x_iload_n 2 dX9_checksum_32 rfl rfl ?_
            refine x_iald dX9_checksum_33 k5 (by omega) (by omega) (by decide) (fun ⟨a6, a6'⟩ => ?_)
            have e7 : (up M 468 0 0) 482 r = M 482 r := (by simp (disch := omega) only [up_s, up_o, up_k])
            simp only [e7] at a6 a6' ⊢
            refine x_iald dX9_checksum_34 k4 (by omega) (by omega) (by decide) (fun ⟨a8, a8'⟩ => ?_)
            have e9 : (up M 468 0 0) 476 (M 482 r) = M 476 (M 482 r) := (by simp (disch := omega) only [up_s, up_o, up_k])
            simp only [e9] at a8 a8' ⊢
            refine x_icmp_ge (tgt := 106) dX9_checksum_35 (by decide) ⟨by omega, by omega⟩ ⟨by omega, by omega⟩ (fun c10 => ?_) (fun c10 => ?_)
            · refine x_iinc (z := r) (lv' := [(3, iv (r + 1)), (0, rv g 468), (1, .long u), (4, iv t)]) 2 dX9_checksum_106 rfl (Nat.le_of_ble_eq_true rfl) rfl ?_
              refine x_goto (tgt := 11) dX9_checksum_109 (by decide) ?_
              refine x_sub [1, 2, 0] rfl ?_
              exact ih_11 _ _ (by omega) (by omega) (by rw [ckR_s (by omega), ← j2, l2, show t = M 476 (M 482 r) by omega]) (by omega)
            · have i3 := I.res r t (by omega) (by omega) (by omega) (by omega)
              refine x_iconst (0) dX9_checksum_38 rfl ?_
              refine x_istore (lv' := [(5, iv 0), (0, rv g 468), (1, .long u), (3, iv r), (4, iv t)]) dX9_checksum_39 (Nat.le_of_ble_eq_true rfl) rfl ?_
              have h_41 : ∀ (n_41 : Nat) (v : Int64) (k : Int), (0 ≤ k) → (k ≤ (M 491 (6 * r + t))) → (v = ckK (fun k => (M 490 (36 * r + 6 * t + k))) u k.toNat) → ((M 491 (6 * r + t)) - k).toNat < n_41 → Ok g mX9_checksum (rmd 1) (FQ g (pLP (fun z => z = cks M) (up M 468 0 0))) 41 [(0, rv g 468), (1, .long v), (3, iv r), (4, iv t), (5, iv k)] [] (up M 468 0 0) := by
                intro n_41
                induction n_41 with
                | zero => intro v k n0 n1 n2 hn_41; exact absurd hn_41 (Nat.not_lt_zero _)
                | succ n_41 ih_41 =>
                  intro v k n0 n1 n2 hn_41
                  refine x_iload 4 dX9_checksum_41 rfl ?_
                  refine x_aload_n 0 dX9_checksum_43 rfl rfl ?_
                  refine x_getr (k := 29) (d := 23) dX9_checksum_44 fl9_77 k_468 rfl (fun k11 => ?_)
                  have k11 : isK 20 240 491 := k11
                  show Ok g mX9_checksum (rmd 1) (FQ g (pLP (fun z => z = cks M) (up M 468 0 0))) 47 [(0, rv g 468), (1, .long v), (3, iv r), (4, iv t), (5, iv k)] [rv g 491, iv k] (up M 468 0 0)
                  refine x_bipush (6) dX9_checksum_47 rfl ?_
                  refine x_iload_n 2 dX9_checksum_49 rfl rfl ?_
                  refine x_imul dX9_checksum_50 ?_
                  refine x_iload 3 dX9_checksum_51 rfl ?_
                  refine x_iadd dX9_checksum_53 ?_
                  refine x_iald dX9_checksum_54 k11 (by omega) (by omega) (by decide) (fun ⟨a12, a12'⟩ => ?_)
                  have e13 : (up M 468 0 0) 491 ((6 * r) + t) = M 491 ((6 * r) + t) := (by simp (disch := omega) only [up_s, up_o, up_k])
                  simp only [e13] at a12 a12' ⊢
                  refine x_icmp_ge (tgt := 90) dX9_checksum_55 (by decide) ⟨by omega, by omega⟩ ⟨by omega, by omega⟩ (fun c14 => ?_) (fun c14 => ?_)
                  · refine x_ldc2 (v := 31) dX9_checksum_90 (inr41 _ (List.mem_of_getElem? (i := 11) rfl)) ?_
                    refine x_lload_n 1 dX9_checksum_93 rfl rfl ?_
                    refine x_lmul dX9_checksum_94 ?_
                    refine x_ldc2 (v := 1000) dX9_checksum_95 (inr41 _ (List.mem_of_getElem? (i := 12) rfl)) ?_
                    refine x_ladd dX9_checksum_98 ?_
                    refine x_lstore_n (lv' := [(1, .long ((31 * v) + 1000)), (0, rv g 468), (3, iv r), (4, iv t), (5, iv k)]) dX9_checksum_99 rfl (Nat.le_of_ble_eq_true rfl) rfl ?_
                    refine x_iinc (z := t) (lv' := [(4, iv (t + 1)), (1, .long ((31 * v) + 1000)), (0, rv g 468), (3, iv r), (5, iv k)]) 3 dX9_checksum_100 rfl (Nat.le_of_ble_eq_true rfl) rfl ?_
                    refine x_goto (tgt := 22) dX9_checksum_103 (by decide) ?_
                    refine x_sub [2, 1, 3, 0] rfl ?_
                    exact ih_22 _ _ (by omega) (by omega) (by rw [ckT_s (by omega), ← l2, n2, show k = M 491 (6 * r + t) by omega]) (by omega)
                  · refine x_ldc2 (v := 31) dX9_checksum_58 (inr41 _ (List.mem_of_getElem? (i := 11) rfl)) ?_
                    refine x_lload_n 1 dX9_checksum_61 rfl rfl ?_
                    refine x_lmul dX9_checksum_62 ?_
                    refine x_aload_n 0 dX9_checksum_63 rfl rfl ?_
                    refine x_getr (k := 28) (d := 22) dX9_checksum_64 fl9_74 k_468 rfl (fun k15 => ?_)
                    have k15 : isK 20 1440 490 := k15
                    show Ok g mX9_checksum (rmd 1) (FQ g (pLP (fun z => z = cks M) (up M 468 0 0))) 67 [(0, rv g 468), (1, .long v), (3, iv r), (4, iv t), (5, iv k)] [rv g 490, .long (31 * v)] (up M 468 0 0)
                    refine x_bipush (36) dX9_checksum_67 rfl ?_
                    refine x_iload_n 2 dX9_checksum_69 rfl rfl ?_
                    refine x_imul dX9_checksum_70 ?_
                    refine x_bipush (6) dX9_checksum_71 rfl ?_
                    refine x_iload 3 dX9_checksum_73 rfl ?_
                    refine x_imul dX9_checksum_75 ?_
                    refine x_iadd dX9_checksum_76 ?_
                    refine x_iload 4 dX9_checksum_77 rfl ?_
                    refine x_iadd dX9_checksum_79 ?_
                    refine x_iald dX9_checksum_80 k15 (by omega) (by omega) (by decide) (fun ⟨a16, a16'⟩ => ?_)
                    have e17 : (up M 468 0 0) 490 (((36 * r) + (6 * t)) + k) = M 490 (((36 * r) + (6 * t)) + k) := (by simp (disch := omega) only [up_s, up_o, up_k])
                    simp only [e17] at a16 a16' ⊢
                    refine x_i2l dX9_checksum_81 ⟨by omega, by omega⟩ ?_
                    refine x_ladd dX9_checksum_82 ?_
                    refine x_lstore_n (lv' := [(1, .long ((31 * v) + (Int64.ofInt (M 490 (((36 * r) + (6 * t)) + k))))), (0, rv g 468), (3, iv r), (4, iv t), (5, iv k)]) dX9_checksum_83 rfl (Nat.le_of_ble_eq_true rfl) rfl ?_
                    refine x_iinc (z := k) (lv' := [(5, iv (k + 1)), (1, .long ((31 * v) + (Int64.ofInt (M 490 (((36 * r) + (6 * t)) + k))))), (0, rv g 468), (3, iv r), (4, iv t)]) 4 dX9_checksum_84 rfl (Nat.le_of_ble_eq_true rfl) rfl ?_
                    refine x_goto (tgt := 41) dX9_checksum_87 (by decide) ?_
                    refine x_sub [2, 1, 3, 4, 0] rfl ?_
                    exact ih_41 _ _ (by omega) (by omega) (by rw [ckK_s (by omega), ← n2]) (by omega)
              refine x_sub [1, 2, 3, 4, 0] rfl ?_
              exact h_41 _ _ _ (by omega) (by omega) (by rfl) (Nat.lt_succ_self _)
        refine x_sub [1, 2, 3, 0] rfl ?_
        exact h_22 _ _ _ (by omega) (by omega) (by rfl) (Nat.lt_succ_self _)
  refine x_aload_n 0 dX9_checksum_0 rfl rfl ?_
  refine x_iconst (0) dX9_checksum_1 rfl ?_
  refine x_puti (k := 0) (kI := 0) dX9_checksum_2 fw9_100 k_468 rfl ⟨by decide, by decide⟩ rfl rfl rfl ?_
  refine x_ldc2 (v := 7) dX9_checksum_5 (inr41 _ (List.mem_of_getElem? (i := 10) rfl)) ?_
  refine x_lstore_n (lv' := [(1, .long 7), (0, rv g 468)]) dX9_checksum_8 rfl (Nat.le_of_ble_eq_true rfl) rfl ?_
  refine x_iconst (0) dX9_checksum_9 rfl ?_
  refine x_istore_n (lv' := [(3, iv 0), (1, .long 7), (0, rv g 468)]) dX9_checksum_10 rfl (Nat.le_of_ble_eq_true rfl) rfl ?_
  refine x_sub [2, 1, 0] rfl ?_
  exact h_11 _ _ _ (by omega) (by omega) (by rfl) (Nat.lt_succ_self _)
