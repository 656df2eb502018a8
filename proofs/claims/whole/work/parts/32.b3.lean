set_option maxHeartbeats 600000 in
set_option maxRecDepth 100000 in
theorem c_X9_isAhead (g : GG) (M : Mem) (a c b : Int) (I : RB M) (a0 : 0 ≤ a) (a1 : a ≤ 100) (c0 : 0 ≤ c) (c1 : c ≤ 100) (b0 : b = 0 ∨ b = 1) : Ct g yX9_isAhead cX9_isAhead 5 (some .boolean) 4 [rv g 468, iv a, iv c, iv b] M (pIP (fun z => (z = 1 ∧ Ahd M b a c) ∨ (z = 0 ∧ ¬ Ahd M b a c)) M) := by
  refine ct_of (by decide +kernel) (Nat.le_of_ble_eq_true rfl) ?_
  show Ok g mX9_isAhead (rmd 4) (FQ g (pIP (fun z => (z = 1 ∧ Ahd M b a c) ∨ (z = 0 ∧ ¬ Ahd M b a c)) M)) 0 [(0, rv g 468), (1, iv a), (2, iv c), (3, iv b)] [] M
  have i0 := I.rng
  refine x_aload_n 0 dX9_isAhead_0 rfl rfl ?_
  refine x_iload_n 2 dX9_isAhead_1 rfl rfl ?_
  refine x_iload_n 3 dX9_isAhead_2 rfl rfl ?_
  refine x_callVIP (as := [iv c, iv b]) (rest := []) dX9_isAhead_3 vl9_226 k_468 (c_X9_solvedBy g M c b I (by omega) (by omega) b0) rfl rfl (Nat.le_of_ble_eq_true rfl) ⟨Nat.le_of_ble_eq_true rfl, Nat.le_of_ble_eq_true rfl⟩ (fun z1 h2 => ?_)
  have h2r := solR_rng (M := M) (b := b) (t := c) (n := M 468 18) (by omega) (by omega)
  rw [← h2] at h2r
  refine x_aload_n 0 dX9_isAhead_6 rfl rfl ?_
  refine x_iload_n 1 dX9_isAhead_7 rfl rfl ?_
  refine x_iload_n 3 dX9_isAhead_8 rfl rfl ?_
  refine x_callVIP (as := [iv a, iv b]) (rest := [iv z1]) dX9_isAhead_9 vl9_226 k_468 (c_X9_solvedBy g M a b I (by omega) (by omega) b0) rfl rfl (Nat.le_of_ble_eq_true rfl) ⟨Nat.le_of_ble_eq_true rfl, Nat.le_of_ble_eq_true rfl⟩ (fun z4 h5 => ?_)
  have h5r := solR_rng (M := M) (b := b) (t := a) (n := M 468 18) (by omega) (by omega)
  rw [← h5] at h5r
  refine x_isub dX9_isAhead_12 ?_
  refine x_istore (lv' := [(4, iv (z1 - z4)), (0, rv g 468), (1, iv a), (2, iv c), (3, iv b)]) dX9_isAhead_13 (Nat.le_of_ble_eq_true rfl) rfl ?_
  refine x_iload 0 dX9_isAhead_15 rfl ?_
  refine x_if_ne (tgt := 35) dX9_isAhead_17 (by decide) ⟨by omega, by omega⟩ (fun c7 => ?_) (fun c7 => ?_)
  · refine x_iload 0 dX9_isAhead_35 rfl ?_
    refine x_if_ne (tgt := 55) dX9_isAhead_37 (by decide) ⟨by omega, by omega⟩ (fun c8 => ?_) (fun c8 => ?_)
    · refine x_iload 0 dX9_isAhead_55 rfl ?_
      refine x_if_ne (tgt := 73) dX9_isAhead_57 (by decide) ⟨by omega, by omega⟩ (fun c9 => ?_) (fun c9 => ?_)
      · refine x_iload 0 dX9_isAhead_73 rfl ?_
        refine x_if_ge (tgt := 82) dX9_isAhead_75 (by decide) ⟨by omega, by omega⟩ (fun c10 => ?_) (fun c10 => ?_)
        · refine x_iconst (0) dX9_isAhead_82 rfl ?_
          refine x_iret dX9_isAhead_83 rfl (iZ_bool (by omega)) ?_
          exact ⟨_, rfl, rfl, by unfold Ahd; omega⟩
        · refine x_iconst (1) dX9_isAhead_78 rfl ?_
          refine x_goto (tgt := 83) dX9_isAhead_79 (by decide) ?_
          refine x_iret dX9_isAhead_83 rfl (iZ_bool (by omega)) ?_
          exact ⟨_, rfl, rfl, by unfold Ahd; omega⟩
      · refine x_iload_n 2 dX9_isAhead_60 rfl rfl ?_
        refine x_iload_n 3 dX9_isAhead_61 rfl rfl ?_
        refine x_icmp_ge (tgt := 69) dX9_isAhead_62 (by decide) ⟨by omega, by omega⟩ ⟨by omega, by omega⟩ (fun c11 => ?_) (fun c11 => ?_)
        · refine x_iconst (0) dX9_isAhead_69 rfl ?_
          refine x_goto (tgt := 83) dX9_isAhead_70 (by decide) ?_
          refine x_iret dX9_isAhead_83 rfl (iZ_bool (by omega)) ?_
          exact ⟨_, rfl, rfl, by unfold Ahd; omega⟩
        · refine x_iconst (1) dX9_isAhead_65 rfl ?_
          refine x_goto (tgt := 83) dX9_isAhead_66 (by decide) ?_
          refine x_iret dX9_isAhead_83 rfl (iZ_bool (by omega)) ?_
          exact ⟨_, rfl, rfl, by unfold Ahd; omega⟩
    · refine x_aload_n 1 dX9_isAhead_40 rfl rfl ?_
      refine x_iload_n 2 dX9_isAhead_41 rfl rfl ?_
      refine x_iload_n 4 dX9_isAhead_42 rfl rfl ?_
      refine x_callVIP (as := [iv a, iv b]) (rest := []) dX9_isAhead_43 vl9_233 k_468 (c_X9_latestOf g M a b I (by omega) (by omega) b0) rfl rfl (Nat.le_of_ble_eq_true rfl) ⟨Nat.le_of_ble_eq_true rfl, Nat.le_of_ble_eq_true rfl⟩ (fun z12 h13 => ?_)
      refine x_aload_n 1 dX9_isAhead_46 rfl rfl ?_
      refine x_iload_n 3 dX9_isAhead_47 rfl rfl ?_
      refine x_iload_n 4 dX9_isAhead_48 rfl rfl ?_
      refine x_callVIP (as := [iv c, iv b]) (rest := [iv z12]) dX9_isAhead_49 vl9_233 k_468 (c_X9_latestOf g M c b I (by omega) (by omega) b0) rfl rfl (Nat.le_of_ble_eq_true rfl) ⟨Nat.le_of_ble_eq_true rfl, Nat.le_of_ble_eq_true rfl⟩ (fun z15 h16 => ?_)
      refine x_isub dX9_isAhead_52 ?_
      refine x_istore (lv' := [(4, iv (z12 - z15)), (0, rv g 468), (1, iv a), (2, iv c), (3, iv b)]) dX9_isAhead_53 (Nat.le_of_ble_eq_true rfl) rfl ?_
      refine x_iload 0 dX9_isAhead_55 rfl ?_
      refine x_if_ne (tgt := 73) dX9_isAhead_57 (by decide) ⟨by omega, by omega⟩ (fun c18 => ?_) (fun c18 => ?_)
      · refine x_iload 0 dX9_isAhead_73 rfl ?_
        refine x_if_ge (tgt := 82) dX9_isAhead_75 (by decide) ⟨by omega, by omega⟩ (fun c19 => ?_) (fun c19 => ?_)
        · refine x_iconst (0) dX9_isAhead_82 rfl ?_
          refine x_iret dX9_isAhead_83 rfl (iZ_bool (by omega)) ?_
          exact ⟨_, rfl, rfl, by unfold Ahd; omega⟩
        · refine x_iconst (1) dX9_isAhead_78 rfl ?_
          refine x_goto (tgt := 83) dX9_isAhead_79 (by decide) ?_
          refine x_iret dX9_isAhead_83 rfl (iZ_bool (by omega)) ?_
          exact ⟨_, rfl, rfl, by unfold Ahd; omega⟩
      · refine x_iload_n 2 dX9_isAhead_60 rfl rfl ?_
        refine x_iload_n 3 dX9_isAhead_61 rfl rfl ?_
        refine x_icmp_ge (tgt := 69) dX9_isAhead_62 (by decide) ⟨by omega, by omega⟩ ⟨by omega, by omega⟩ (fun c20 => ?_) (fun c20 => ?_)
        · refine x_iconst (0) dX9_isAhead_69 rfl ?_
          refine x_goto (tgt := 83) dX9_isAhead_70 (by decide) ?_
          refine x_iret dX9_isAhead_83 rfl (iZ_bool (by omega)) ?_
          exact ⟨_, rfl, rfl, by unfold Ahd; omega⟩
        · refine x_iconst (1) dX9_isAhead_65 rfl ?_
          refine x_goto (tgt := 83) dX9_isAhead_66 (by decide) ?_
          refine x_iret dX9_isAhead_83 rfl (iZ_bool (by omega)) ?_
          exact ⟨_, rfl, rfl, by unfold Ahd; omega⟩
  · refine x_aload_n 1 dX9_isAhead_20 rfl rfl ?_
    refine x_iload_n 2 dX9_isAhead_21 rfl rfl ?_
    refine x_iload_n 4 dX9_isAhead_22 rfl rfl ?_
    refine x_callVIP (as := [iv a, iv b]) (rest := []) dX9_isAhead_23 vl9_230 k_468 (c_X9_penaltyOf g M a b I (by omega) (by omega) b0) rfl rfl (Nat.le_of_ble_eq_true rfl) ⟨Nat.le_of_ble_eq_true rfl, Nat.le_of_ble_eq_true rfl⟩ (fun z21 h22 => ?_)
    have h22r := penS_rng I (b := b) (t := a)
    rw [← h22] at h22r
    refine x_aload_n 1 dX9_isAhead_26 rfl rfl ?_
    refine x_iload_n 3 dX9_isAhead_27 rfl rfl ?_
    refine x_iload_n 4 dX9_isAhead_28 rfl rfl ?_
    refine x_callVIP (as := [iv c, iv b]) (rest := [iv z21]) dX9_isAhead_29 vl9_230 k_468 (c_X9_penaltyOf g M c b I (by omega) (by omega) b0) rfl rfl (Nat.le_of_ble_eq_true rfl) ⟨Nat.le_of_ble_eq_true rfl, Nat.le_of_ble_eq_true rfl⟩ (fun z24 h25 => ?_)
    have h25r := penS_rng I (b := b) (t := c)
    rw [← h25] at h25r
    refine x_isub dX9_isAhead_32 ?_
    refine x_istore (lv' := [(4, iv (z21 - z24)), (0, rv g 468), (1, iv a), (2, iv c), (3, iv b)]) dX9_isAhead_33 (Nat.le_of_ble_eq_true rfl) rfl ?_
    refine x_iload 0 dX9_isAhead_35 rfl ?_
    refine x_if_ne (tgt := 55) dX9_isAhead_37 (by decide) ⟨by omega, by omega⟩ (fun c27 => ?_) (fun c27 => ?_)
    · refine x_iload 0 dX9_isAhead_55 rfl ?_
      refine x_if_ne (tgt := 73) dX9_isAhead_57 (by decide) ⟨by omega, by omega⟩ (fun c28 => ?_) (fun c28 => ?_)
      · refine x_iload 0 dX9_isAhead_73 rfl ?_
        refine x_if_ge (tgt := 82) dX9_isAhead_75 (by decide) ⟨by omega, by omega⟩ (fun c29 => ?_) (fun c29 => ?_)
        · refine x_iconst (0) dX9_isAhead_82 rfl ?_
          refine x_iret dX9_isAhead_83 rfl (iZ_bool (by omega)) ?_
          exact ⟨_, rfl, rfl, by unfold Ahd; omega⟩
        · refine x_iconst (1) dX9_isAhead_78 rfl ?_
          refine x_goto (tgt := 83) dX9_isAhead_79 (by decide) ?_
          refine x_iret dX9_isAhead_83 rfl (iZ_bool (by omega)) ?_
          exact ⟨_, rfl, rfl, by unfold Ahd; omega⟩
      · refine x_iload_n 2 dX9_isAhead_60 rfl rfl ?_
        refine x_iload_n 3 dX9_isAhead_61 rfl rfl ?_
        refine x_icmp_ge (tgt := 69) dX9_isAhead_62 (by decide) ⟨by omega, by omega⟩ ⟨by omega, by omega⟩ (fun c30 => ?_) (fun c30 => ?_)
        · refine x_iconst (0) dX9_isAhead_69 rfl ?_
          refine x_goto (tgt := 83) dX9_isAhead_70 (by decide) ?_
          refine x_iret dX9_isAhead_83 rfl (iZ_bool (by omega)) ?_
          exact ⟨_, rfl, rfl, by unfold Ahd; omega⟩
        · refine x_iconst (1) dX9_isAhead_65 rfl ?_
          refine x_goto (tgt := 83) dX9_isAhead_66 (by decide) ?_
          refine x_iret dX9_isAhead_83 rfl (iZ_bool (by omega)) ?_
          exact ⟨_, rfl, rfl, by unfold Ahd; omega⟩
    · refine x_aload_n 1 dX9_isAhead_40 rfl rfl ?_
      refine x_iload_n 2 dX9_isAhead_41 rfl rfl ?_
      refine x_iload_n 4 dX9_isAhead_42 rfl rfl ?_
      refine x_callVIP (as := [iv a, iv b]) (rest := []) dX9_isAhead_43 vl9_233 k_468 (c_X9_latestOf g M a b I (by omega) (by omega) b0) rfl rfl (Nat.le_of_ble_eq_true rfl) ⟨Nat.le_of_ble_eq_true rfl, Nat.le_of_ble_eq_true rfl⟩ (fun z31 h32 => ?_)
      refine x_aload_n 1 dX9_isAhead_46 rfl rfl ?_
      refine x_iload_n 3 dX9_isAhead_47 rfl rfl ?_
      refine x_iload_n 4 dX9_isAhead_48 rfl rfl ?_
      refine x_callVIP (as := [iv c, iv b]) (rest := [iv z31]) dX9_isAhead_49 vl9_233 k_468 (c_X9_latestOf g M c b I (by omega) (by omega) b0) rfl rfl (Nat.le_of_ble_eq_true rfl) ⟨Nat.le_of_ble_eq_true rfl, Nat.le_of_ble_eq_true rfl⟩ (fun z34 h35 => ?_)
      refine x_isub dX9_isAhead_52 ?_
      refine x_istore (lv' := [(4, iv (z31 - z34)), (0, rv g 468), (1, iv a), (2, iv c), (3, iv b)]) dX9_isAhead_53 (Nat.le_of_ble_eq_true rfl) rfl ?_
      refine x_iload 0 dX9_isAhead_55 rfl ?_
      refine x_if_ne (tgt := 73) dX9_isAhead_57 (by decide) ⟨by omega, by omega⟩ (fun c37 => ?_) (fun c37 => ?_)
      · refine x_iload 0 dX9_isAhead_73 rfl ?_
        refine x_if_ge (tgt := 82) dX9_isAhead_75 (by decide) ⟨by omega, by omega⟩ (fun c38 => ?_) (fun c38 => ?_)
        · refine x_iconst (0) dX9_isAhead_82 rfl ?_
          refine x_iret dX9_isAhead_83 rfl (iZ_bool (by omega)) ?_
          exact ⟨_, rfl, rfl, by unfold Ahd; omega⟩
        · refine x_iconst (1) dX9_isAhead_78 rfl ?_
          refine x_goto (tgt := 83) dX9_isAhead_79 (by decide) ?_
          refine x_iret dX9_isAhead_83 rfl (iZ_bool (by omega)) ?_
          exact ⟨_, rfl, rfl, by unfold Ahd; omega⟩
      · refine x_iload_n 2 dX9_isAhead_60 rfl rfl ?_
        refine x_iload_n 3 dX9_isAhead_61 rfl rfl ?_
        refine x_icmp_ge (tgt := 69) dX9_isAhead_62 (by decide) ⟨by omega, by omega⟩ ⟨by omega, by omega⟩ (fun c39 => ?_) (fun c39 => ?_)
        · refine x_iconst (0) dX9_isAhead_69 rfl ?_
          refine x_goto (tgt := 83) dX9_isAhead_70 (by decide) ?_
          refine x_iret dX9_isAhead_83 rfl (iZ_bool (by omega)) ?_
          exact ⟨_, rfl, rfl, by unfold Ahd; omega⟩
        · refine x_iconst (1) dX9_isAhead_65 rfl ?_
          refine x_goto (tgt := 83) dX9_isAhead_66 (by decide) ?_
          refine x_iret dX9_isAhead_83 rfl (iZ_bool (by omega)) ?_
          exact ⟨_, rfl, rfl, by unfold Ahd; omega⟩

set_option maxHeartbeats 600000 in
set_option maxRecDepth 100000 in
theorem c_X9_rankOf (g : GG) (M : Mem) (t b : Int) (I : RB M) (t0 : 0 ≤ t) (t1 : t ≤ 100) (b0 : b = 0 ∨ b = 1) : Ct g yX9_rankOf cX9_rankOf 5 (some .int) 5 [rv g 468, iv t, iv b] M (pIP (fun z => z = 1 + cnt (fun q => q ≠ t ∧ Ahd M b q t) (M 468 17)) M) := by
  refine ct_of (by decide +kernel) (Nat.le_of_ble_eq_true rfl) ?_
  show Ok g mX9_rankOf (rmd 5) (FQ g (pIP (fun z => z = 1 + cnt (fun q => q ≠ t ∧ Ahd M b q t) (M 468 17)) M)) 0 [(0, rv g 468), (1, iv t), (2, iv b)] [] M
  have i0 := I.rng
  have h_5 : ∀ (n_5 : Nat) (s : Int) (q : Int), (0 ≤ q) → (q ≤ M 468 17) → (s = 1 + cnt (fun q => q ≠ t ∧ Ahd M b q t) q) → (0 ≤ s ∧ s ≤ 100) → (M 468 17 - q).toNat < n_5 → Ok g mX9_rankOf (rmd 5) (FQ g (pIP (fun z => z = 1 + cnt (fun q => q ≠ t ∧ Ahd M b q t) (M 468 17)) M)) 5 [(0, rv g 468), (1, iv t), (2, iv b), (3, iv s), (4, iv q)] [] M := by
    intro n_5
    induction n_5 with
    | zero => intro s q j0 j1 j2 j3 hn_5; exact absurd hn_5 (Nat.not_lt_zero _)
    | succ n_5 ih_5 =>
      intro s q j0 j1 j2 j3 hn_5
      refine x_iload 4 dX9_rankOf_5 rfl ?_
      refine x_aload_n 0 dX9_rankOf_7 rfl rfl ?_
      refine x_geti (k := 17) (kI := 17) dX9_rankOf_8 fl9_127 k_468 rfl rfl (fun ⟨a1, a1'⟩ => ?_)
      refine x_icmp_ge (tgt := 45) dX9_rankOf_11 (by decide) ⟨by omega, by omega⟩ ⟨by omega, by omega⟩ (fun c2 => ?_) (fun c2 => ?_)
      · refine x_iload_n 3 dX9_rankOf_45 rfl rfl ?_
        refine x_iret dX9_rankOf_46 rfl rfl ?_
        exact ⟨_, rfl, rfl, by rw [j2, show q = M 468 17 by omega]⟩
      · refine x_iload_n 3 dX9_rankOf_14 rfl rfl ?_
        refine x_iload 4 dX9_rankOf_15 rfl ?_
        refine x_iload_n 1 dX9_rankOf_17 rfl rfl ?_
        refine x_icmp_eq (tgt := 36) dX9_rankOf_18 (by decide) ⟨by omega, by omega⟩ ⟨by omega, by omega⟩ (fun c3 => ?_) (fun c3 => ?_)
        · refine x_iconst (0) dX9_rankOf_36 rfl ?_
          refine x_iadd dX9_rankOf_37 ?_
          refine x_istore_n (lv' := [(3, iv (s + 0)), (0, rv g 468), (1, iv t), (2, iv b), (4, iv q)]) dX9_rankOf_38 rfl (Nat.le_of_ble_eq_true rfl) rfl ?_
          refine x_iinc (z := q) (lv' := [(4, iv (q + 1)), (3, iv (s + 0)), (0, rv g 468), (1, iv t), (2, iv b)]) 4 dX9_rankOf_39 rfl (Nat.le_of_ble_eq_true rfl) rfl ?_
          refine x_goto (tgt := 5) dX9_rankOf_42 (by decide) ?_
          refine x_sub [2, 3, 4, 1, 0] rfl ?_
          exact ih_5 _ _ (by omega) (by omega) (by rw [cnt_f (by omega) (by rintro ⟨u1, u2⟩; first | omega | (revert u2; (clear ih_5; grind)))]; omega) (by have u9 := cnt_range (fun q => q ≠ t ∧ Ahd M b q t) (n := q) (by omega); omega) (by omega)
        · refine x_aload_n 0 dX9_rankOf_21 rfl rfl ?_
          refine x_iload 4 dX9_rankOf_22 rfl ?_
          refine x_iload_n 1 dX9_rankOf_24 rfl rfl ?_
          refine x_iload_n 2 dX9_rankOf_25 rfl rfl ?_
          refine x_callVIP (as := [iv q, iv t, iv b]) (rest := [iv s]) dX9_rankOf_26 vl9_218 k_468 (c_X9_isAhead g M q t b I (by omega) (by omega) (by omega) (by omega) b0) rfl rfl (Nat.le_of_ble_eq_true rfl) ⟨Nat.le_of_ble_eq_true rfl, Nat.le_of_ble_eq_true rfl⟩ (fun z4 h5 => ?_)
          refine x_if_eq (tgt := 36) dX9_rankOf_29 (by decide) ⟨by omega, by omega⟩ (fun c7 => ?_) (fun c7 => ?_)
          · refine x_iconst (0) dX9_rankOf_36 rfl ?_
            refine x_iadd dX9_rankOf_37 ?_
            refine x_istore_n (lv' := [(3, iv (s + 0)), (0, rv g 468), (1, iv t), (2, iv b), (4, iv q)]) dX9_rankOf_38 rfl (Nat.le_of_ble_eq_true rfl) rfl ?_
            refine x_iinc (z := q) (lv' := [(4, iv (q + 1)), (3, iv (s + 0)), (0, rv g 468), (1, iv t), (2, iv b)]) 4 dX9_rankOf_39 rfl (Nat.le_of_ble_eq_true rfl) rfl ?_
            refine x_goto (tgt := 5) dX9_rankOf_42 (by decide) ?_
            refine x_sub [2, 3, 4, 1, 0] rfl ?_
            exact ih_5 _ _ (by omega) (by omega) (by rw [cnt_f (by omega) (by rintro ⟨u1, u2⟩; first | omega | (revert u2; (clear ih_5; grind)))]; omega) (by have u9 := cnt_range (fun q => q ≠ t ∧ Ahd M b q t) (n := q) (by omega); omega) (by omega)
          · refine x_iconst (1) dX9_rankOf_32 rfl ?_
            refine x_goto (tgt := 37) dX9_rankOf_33 (by decide) ?_
            refine x_iadd dX9_rankOf_37 ?_
            refine x_istore_n (lv' := [(3, iv (s + 1)), (0, rv g 468), (1, iv t), (2, iv b), (4, iv q)]) dX9_rankOf_38 rfl (Nat.le_of_ble_eq_true rfl) rfl ?_
            refine x_iinc (z := q) (lv' := [(4, iv (q + 1)), (3, iv (s + 1)), (0, rv g 468), (1, iv t), (2, iv b)]) 4 dX9_rankOf_39 rfl (Nat.le_of_ble_eq_true rfl) rfl ?_
            refine x_goto (tgt := 5) dX9_rankOf_42 (by decide) ?_
            refine x_sub [2, 3, 4, 1, 0] rfl ?_
            exact ih_5 _ _ (by omega) (by omega) (by rw [cnt_t (by omega) (⟨by omega, by (clear ih_5; grind)⟩)]; omega) (by have u9 := cnt_range (fun q => q ≠ t ∧ Ahd M b q t) (n := q) (by omega); omega) (by omega)
  refine x_iconst (1) dX9_rankOf_0 rfl ?_
  refine x_istore_n (lv' := [(3, iv 1), (0, rv g 468), (1, iv t), (2, iv b)]) dX9_rankOf_1 rfl (Nat.le_of_ble_eq_true rfl) rfl ?_
  refine x_iconst (0) dX9_rankOf_2 rfl ?_
  refine x_istore (lv' := [(4, iv 0), (3, iv 1), (0, rv g 468), (1, iv t), (2, iv b)]) dX9_rankOf_3 (Nat.le_of_ble_eq_true rfl) rfl ?_
  refine x_sub [2, 3, 4, 1, 0] rfl ?_
  exact h_5 _ _ _ (by omega) (by omega) (by rw [cnt_0]; omega) (by omega) (Nat.lt_succ_self _)

set_option maxHeartbeats 600000 in
set_option maxRecDepth 100000 in
theorem c_X9_areAlike (g : GG) (M : Mem) (r t q u : Int) (I : RB M) (r0 : 0 ≤ r) (r1 : r < M 468 18) (t0 : 0 ≤ t) (t1 : t < (M 476 ((M 482 (r))))) (q0 : 0 ≤ q) (q1 : q < M 468 18) (u0 : 0 ≤ u) (u1 : u < (M 476 ((M 482 (q))))) : Ct g yX9_areAlike cX9_areAlike 7 (some .boolean) 0 [rv g 468, iv r, iv t, iv q, iv u] M (pIP (fun z => (z = 1 ∧ Lik M r t q u) ∨ (z = 0 ∧ ¬ Lik M r t q u)) M) := by
  refine ct_of (by decide +kernel) (Nat.le_of_ble_eq_true rfl) ?_
  show Ok g mX9_areAlike (rmd 0) (FQ g (pIP (fun z => (z = 1 ∧ Lik M r t q u) ∨ (z = 0 ∧ ¬ Lik M r t q u)) M)) 0 [(0, rv g 468), (1, iv r), (2, iv t), (3, iv q), (4, iv u)] [] M
  have i0 := I.rng
  have i1 := I.run r r0 r1
  have i2 := I.prob (M 482 r) (by omega) (by omega)
  have i3 := I.run q q0 q1
  have i4 := I.prob (M 482 q) (by omega) (by omega)
  have i5 := I.res r t r0 r1 t0 t1
  have i6 := I.res q u q0 q1 u0 u1
  have h_36 : ∀ (n_36 : Nat) (b : Int) (k : Int), (0 ≤ k) → (k ≤ (M 491 (6 * r + t))) → ((b = 1 ∧ (M 491 (6 * r + t)) = (M 491 (6 * q + u)) ∧ ∀ k1, 0 ≤ k1 → k1 < k → (M 490 (36 * r + 6 * t + k1)) = (M 490 (36 * q + 6 * u + k1))) ∨ (b = 0 ∧ ¬ Lik M r t q u)) → ((M 491 (6 * r + t)) - k).toNat < n_36 → Ok g mX9_areAlike (rmd 0) (FQ g (pIP (fun z => (z = 1 ∧ Lik M r t q u) ∨ (z = 0 ∧ ¬ Lik M r t q u)) M)) 36 [(0, rv g 468), (1, iv r), (2, iv t), (3, iv q), (4, iv u), (5, iv b), (6, iv k)] [] M := by
    intro n_36
    induction n_36 with
    | zero => intro b k j0 j1 j2 hn_36; exact absurd hn_36 (Nat.not_lt_zero _)
    | succ n_36 ih_36 =>
      intro b k j0 j1 j2 hn_36
      refine x_iload 6 dX9_areAlike_36 rfl ?_
      refine x_aload_n 0 dX9_areAlike_38 rfl rfl ?_
      refine x_getr (k := 29) (d := 23) dX9_areAlike_39 fl9_77 k_468 rfl (fun k1 => ?_)
      have k1 : isK 20 240 491 := k1
      show Ok g mX9_areAlike (rmd 0) (FQ g (pIP (fun z => (z = 1 ∧ Lik M r t q u) ∨ (z = 0 ∧ ¬ Lik M r t q u)) M)) 42 [(0, rv g 468), (1, iv r), (2, iv t), (3, iv q), (4, iv u), (5, iv b), (6, iv k)] [rv g 491, iv k] M
      refine x_bipush (6) dX9_areAlike_42 rfl ?_
      refine x_iload_n 1 dX9_areAlike_44 rfl rfl ?_
      refine x_imul dX9_areAlike_45 ?_
      refine x_iload_n 2 dX9_areAlike_46 rfl rfl ?_
      refine x_iadd dX9_areAlike_47 ?_
      refine x_iald dX9_areAlike_48 k1 (by omega) (by omega) (by decide) (fun ⟨a2, a2'⟩ => ?_)
      refine x_icmp_ge (tgt := 108) dX9_areAlike_49 (by decide) ⟨by omega, by omega⟩ ⟨by omega, by omega⟩ (fun c3 => ?_) (fun c3 => ?_)
      · refine x_iload 5 dX9_areAlike_108 rfl ?_
        refine x_iret dX9_areAlike_110 rfl (iZ_bool (by omega)) ?_
        refine ⟨_, rfl, rfl, ?_⟩
        rcases j2 with ⟨e1, e2, e3⟩ | ⟨e1, e2⟩
        · left; exact ⟨e1, e2, fun k1 k2 k3 => e3 k1 k2 (by omega)⟩
        · right; exact ⟨e1, e2⟩
      · refine x_iload 5 dX9_areAlike_52 rfl ?_
        refine x_if_eq (tgt := 108) dX9_areAlike_54 (by decide) ⟨by omega, by omega⟩ (fun c4 => ?_) (fun c4 => ?_)
        · refine x_iload 5 dX9_areAlike_108 rfl ?_
          refine x_iret dX9_areAlike_110 rfl (iZ_bool (by omega)) ?_
          refine ⟨_, rfl, rfl, ?_⟩
          rcases j2 with ⟨e1, e2, e3⟩ | ⟨e1, e2⟩
          · left; exact ⟨e1, e2, fun k1 k2 k3 => e3 k1 k2 (by omega)⟩
          · right; exact ⟨e1, e2⟩
        · refine x_aload_n 0 dX9_areAlike_57 rfl rfl ?_
          refine x_getr (k := 28) (d := 22) dX9_areAlike_58 fl9_74 k_468 rfl (fun k5 => ?_)
          have k5 : isK 20 1440 490 := k5
          show Ok g mX9_areAlike (rmd 0) (FQ g (pIP (fun z => (z = 1 ∧ Lik M r t q u) ∨ (z = 0 ∧ ¬ Lik M r t q u)) M)) 61 [(0, rv g 468), (1, iv r), (2, iv t), (3, iv q), (4, iv u), (5, iv b), (6, iv k)] [rv g 490] M
          refine x_bipush (36) dX9_areAlike_61 rfl ?_
          refine x_iload_n 1 dX9_areAlike_63 rfl rfl ?_
          refine x_imul dX9_areAlike_64 ?_
          refine x_bipush (6) dX9_areAlike_65 rfl ?_
          refine x_iload_n 2 dX9_areAlike_67 rfl rfl ?_
          refine x_imul dX9_areAlike_68 ?_
          refine x_iadd dX9_areAlike_69 ?_
          refine x_iload 6 dX9_areAlike_70 rfl ?_
          refine x_iadd dX9_areAlike_72 ?_
          refine x_iald dX9_areAlike_73 k5 (by omega) (by omega) (by decide) (fun ⟨a6, a6'⟩ => ?_)
          refine x_aload_n 0 dX9_areAlike_74 rfl rfl ?_
          refine x_getr (k := 28) (d := 22) dX9_areAlike_75 fl9_74 k_468 rfl (fun k7 => ?_)
          have k7 : isK 20 1440 490 := k7
          show Ok g mX9_areAlike (rmd 0) (FQ g (pIP (fun z => (z = 1 ∧ Lik M r t q u) ∨ (z = 0 ∧ ¬ Lik M r t q u)) M)) 78 [(0, rv g 468), (1, iv r), (2, iv t), (3, iv q), (4, iv u), (5, iv b), (6, iv k)] [rv g 490, iv (M 490 (((36 * r) + (6 * t)) + k))] M
          refine x_bipush (36) dX9_areAlike_78 rfl ?_
          refine x_iload_n 3 dX9_areAlike_80 rfl rfl ?_
          refine x_imul dX9_areAlike_81 ?_
          refine x_bipush (6) dX9_areAlike_82 rfl ?_
          refine x_iload 4 dX9_areAlike_84 rfl ?_
          refine x_imul dX9_areAlike_86 ?_
          refine x_iadd dX9_areAlike_87 ?_
          refine x_iload 6 dX9_areAlike_88 rfl ?_
          refine x_iadd dX9_areAlike_90 ?_
          refine x_iald dX9_areAlike_91 k7 (by omega) (by omega) (by decide) (fun ⟨a8, a8'⟩ => ?_)
          refine x_icmp_ne (tgt := 99) dX9_areAlike_92 (by decide) ⟨by omega, by omega⟩ ⟨by omega, by omega⟩ (fun c9 => ?_) (fun c9 => ?_)
          · refine x_iconst (0) dX9_areAlike_99 rfl ?_
            refine x_istore (lv' := [(5, iv 0), (0, rv g 468), (1, iv r), (2, iv t), (3, iv q), (4, iv u), (6, iv k)]) dX9_areAlike_100 (Nat.le_of_ble_eq_true rfl) rfl ?_
            refine x_iinc (z := k) (lv' := [(6, iv (k + 1)), (5, iv 0), (0, rv g 468), (1, iv r), (2, iv t), (3, iv q), (4, iv u)]) 6 dX9_areAlike_102 rfl (Nat.le_of_ble_eq_true rfl) rfl ?_
            refine x_goto (tgt := 36) dX9_areAlike_105 (by decide) ?_
            refine x_sub [2, 3, 4, 5, 6, 1, 0] rfl ?_
            exact ih_36 _ _ (by omega) (by omega) (by right; exact ⟨rfl, fun e => by have := e.2 k (by omega) (by omega); omega⟩) (by omega)
          · refine x_iconst (1) dX9_areAlike_95 rfl ?_
            refine x_goto (tgt := 100) dX9_areAlike_96 (by decide) ?_
            refine x_istore (lv' := [(5, iv 1), (0, rv g 468), (1, iv r), (2, iv t), (3, iv q), (4, iv u), (6, iv k)]) dX9_areAlike_100 (Nat.le_of_ble_eq_true rfl) rfl ?_
            refine x_iinc (z := k) (lv' := [(6, iv (k + 1)), (5, iv 1), (0, rv g 468), (1, iv r), (2, iv t), (3, iv q), (4, iv u)]) 6 dX9_areAlike_102 rfl (Nat.le_of_ble_eq_true rfl) rfl ?_
            refine x_goto (tgt := 36) dX9_areAlike_105 (by decide) ?_
            refine x_sub [2, 3, 4, 5, 6, 1, 0] rfl ?_
            exact ih_36 _ _ (by omega) (by omega) (by rcases j2 with ⟨_, e2, e3⟩ | ⟨e1, _⟩; left; exact ⟨rfl, e2, ext_lt e3 (by assumption)⟩; omega) (by omega)
  refine x_aload_n 0 dX9_areAlike_0 rfl rfl ?_
  refine x_getr (k := 29) (d := 23) dX9_areAlike_1 fl9_77 k_468 rfl (fun k10 => ?_)
  have k10 : isK 20 240 491 := k10
  show Ok g mX9_areAlike (rmd 0) (FQ g (pIP (fun z => (z = 1 ∧ Lik M r t q u) ∨ (z = 0 ∧ ¬ Lik M r t q u)) M)) 4 [(0, rv g 468), (1, iv r), (2, iv t), (3, iv q), (4, iv u)] [rv g 491] M
  refine x_bipush (6) dX9_areAlike_4 rfl ?_
  refine x_iload_n 1 dX9_areAlike_6 rfl rfl ?_
  refine x_imul dX9_areAlike_7 ?_
  refine x_iload_n 2 dX9_areAlike_8 rfl rfl ?_
  refine x_iadd dX9_areAlike_9 ?_
  refine x_iald dX9_areAlike_10 k10 (by omega) (by omega) (by decide) (fun ⟨a11, a11'⟩ => ?_)
  refine x_aload_n 0 dX9_areAlike_11 rfl rfl ?_
  refine x_getr (k := 29) (d := 23) dX9_areAlike_12 fl9_77 k_468 rfl (fun k12 => ?_)
  have k12 : isK 20 240 491 := k12
  show Ok g mX9_areAlike (rmd 0) (FQ g (pIP (fun z => (z = 1 ∧ Lik M r t q u) ∨ (z = 0 ∧ ¬ Lik M r t q u)) M)) 15 [(0, rv g 468), (1, iv r), (2, iv t), (3, iv q), (4, iv u)] [rv g 491, iv (M 491 ((6 * r) + t))] M
  refine x_bipush (6) dX9_areAlike_15 rfl ?_
  refine x_iload_n 3 dX9_areAlike_17 rfl rfl ?_
  refine x_imul dX9_areAlike_18 ?_
  refine x_iload 4 dX9_areAlike_19 rfl ?_
  refine x_iadd dX9_areAlike_21 ?_
  refine x_iald dX9_areAlike_22 k12 (by omega) (by omega) (by decide) (fun ⟨a13, a13'⟩ => ?_)
  refine x_icmp_ne (tgt := 30) dX9_areAlike_23 (by decide) ⟨by omega, by omega⟩ ⟨by omega, by omega⟩ (fun c14 => ?_) (fun c14 => ?_)
  · refine x_iconst (0) dX9_areAlike_30 rfl ?_
    refine x_istore (lv' := [(5, iv 0), (0, rv g 468), (1, iv r), (2, iv t), (3, iv q), (4, iv u)]) dX9_areAlike_31 (Nat.le_of_ble_eq_true rfl) rfl ?_
    refine x_iconst (0) dX9_areAlike_33 rfl ?_
    refine x_istore (lv' := [(6, iv 0), (5, iv 0), (0, rv g 468), (1, iv r), (2, iv t), (3, iv q), (4, iv u)]) dX9_areAlike_34 (Nat.le_of_ble_eq_true rfl) rfl ?_
    refine x_sub [2, 3, 4, 5, 6, 1, 0] rfl ?_
    exact h_36 _ _ _ (by omega) (by omega) (by right; exact ⟨rfl, fun e => by have := e.1; omega⟩) (Nat.lt_succ_self _)
  · refine x_iconst (1) dX9_areAlike_26 rfl ?_
    refine x_goto (tgt := 31) dX9_areAlike_27 (by decide) ?_
    refine x_istore (lv' := [(5, iv 1), (0, rv g 468), (1, iv r), (2, iv t), (3, iv q), (4, iv u)]) dX9_areAlike_31 (Nat.le_of_ble_eq_true rfl) rfl ?_
    refine x_iconst (0) dX9_areAlike_33 rfl ?_
    refine x_istore (lv' := [(6, iv 0), (5, iv 1), (0, rv g 468), (1, iv r), (2, iv t), (3, iv q), (4, iv u)]) dX9_areAlike_34 (Nat.le_of_ble_eq_true rfl) rfl ?_
    refine x_sub [2, 3, 4, 5, 6, 1, 0] rfl ?_
    exact h_36 _ _ _ (by omega) (by omega) (by left; exact ⟨rfl, by omega, fun k1 _ _ => by omega⟩) (Nat.lt_succ_self _)

set_option maxHeartbeats 600000 in
set_option maxRecDepth 100000 in
theorem c_X9_isFirst (g : GG) (M : Mem) (r t : Int) (I : RB M) (r0 : 0 ≤ r) (r1 : r < M 468 18) (t0 : 0 ≤ t) (t1 : t < (M 476 ((M 482 (r))))) : Ct g yX9_isFirst cX9_isFirst 6 (some .boolean) 1 [rv g 468, iv r, iv t] M (pIP (fun z => (z = 1 ∧ Fst M r t) ∨ (z = 0 ∧ ¬ Fst M r t)) M) := by
  refine ct_of (by decide +kernel) (Nat.le_of_ble_eq_true rfl) ?_
  show Ok g mX9_isFirst (rmd 1) (FQ g (pIP (fun z => (z = 1 ∧ Fst M r t) ∨ (z = 0 ∧ ¬ Fst M r t)) M)) 0 [(0, rv g 468), (1, iv r), (2, iv t)] [] M
  have i0 := I.rng
  have i1 := I.run r r0 r1
  have i2 := I.prob (M 482 r) (by omega) (by omega)
  have h_2 : ∀ (n_2 : Nat) (q : Int), (0 ≤ q) → (q ≤ r + 1) → (∀ q1 u, 0 ≤ q1 → q1 < q → 0 ≤ u → u < (if q1 = r then t else (M 476 ((M 482 (q1))))) → ¬ Lik M r t q1 u) → (r + 1 - q).toNat < n_2 → Ok g mX9_isFirst (rmd 1) (FQ g (pIP (fun z => (z = 1 ∧ Fst M r t) ∨ (z = 0 ∧ ¬ Fst M r t)) M)) 2 [(0, rv g 468), (1, iv r), (2, iv t), (3, iv q)] [] M := by
    intro n_2
    induction n_2 with
    | zero => intro q j0 j1 j2 hn_2; exact absurd hn_2 (Nat.not_lt_zero _)
    | succ n_2 ih_2 =>
      intro q j0 j1 j2 hn_2
      refine x_iload_n 3 dX9_isFirst_2 rfl rfl ?_
      refine x_iload_n 1 dX9_isFirst_3 rfl rfl ?_
      refine x_icmp_gt (tgt := 65) dX9_isFirst_4 (by decide) ⟨by omega, by omega⟩ ⟨by omega, by omega⟩ (fun c1 => ?_) (fun c1 => ?_)
      · refine x_iconst (1) dX9_isFirst_65 rfl ?_
        refine x_iret dX9_isFirst_66 rfl (iZ_bool (by omega)) ?_
        exact ⟨_, rfl, rfl, Or.inl ⟨rfl, fun q1 u1 e0 e1 e2 e3 => j2 q1 u1 e0 (by omega) e2 e3⟩⟩
      · have i3 := I.run q (by omega) (by omega)
        have i4 := I.prob (M 482 q) (by omega) (by omega)
        refine x_iload_n 3 dX9_isFirst_7 rfl rfl ?_
        refine x_iload_n 1 dX9_isFirst_8 rfl rfl ?_
        refine x_icmp_ne (tgt := 16) dX9_isFirst_9 (by decide) ⟨by omega, by omega⟩ ⟨by omega, by omega⟩ (fun c2 => ?_) (fun c2 => ?_)
        · refine x_aload_n 0 dX9_isFirst_16 rfl rfl ?_
          refine x_getr (k := 12) (d := 8) dX9_isFirst_17 fl9_32 k_468 rfl (fun k3 => ?_)
          have k3 : isK 20 5 476 := k3
          show Ok g mX9_isFirst (rmd 1) (FQ g (pIP (fun z => (z = 1 ∧ Fst M r t) ∨ (z = 0 ∧ ¬ Fst M r t)) M)) 20 [(0, rv g 468), (1, iv r), (2, iv t), (3, iv q)] [rv g 476] M
          refine x_aload_n 0 dX9_isFirst_20 rfl rfl ?_
          refine x_getr (k := 20) (d := 14) dX9_isFirst_21 fl9_50 k_468 rfl (fun k4 => ?_)
          have k4 : isK 20 40 482 := k4
          show Ok g mX9_isFirst (rmd 1) (FQ g (pIP (fun z => (z = 1 ∧ Fst M r t) ∨ (z = 0 ∧ ¬ Fst M r t)) M)) 24 [(0, rv g 468), (1, iv r), (2, iv t), (3, iv q)] [rv g 482, rv g 476] M
          refine x_iload_n 3 dX9_isFirst_24 rfl rfl ?_
          refine x_iald dX9_isFirst_25 k4 (by omega) (by omega) (by decide) (fun ⟨a5, a5'⟩ => ?_)
          refine x_iald dX9_isFirst_26 k3 (by omega) (by omega) (by decide) (fun ⟨a6, a6'⟩ => ?_)
          refine x_istore (lv' := [(4, iv (M 476 (M 482 q))), (0, rv g 468), (1, iv r), (2, iv t), (3, iv q)]) dX9_isFirst_27 (Nat.le_of_ble_eq_true rfl) rfl ?_
          refine x_iconst (0) dX9_isFirst_29 rfl ?_
          refine x_istore (lv' := [(5, iv 0), (4, iv (M 476 (M 482 q))), (0, rv g 468), (1, iv r), (2, iv t), (3, iv q)]) dX9_isFirst_30 (Nat.le_of_ble_eq_true rfl) rfl ?_
          have h_32 : ∀ (n_32 : Nat) (u : Int), (0 ≤ u) → (u ≤ M 476 (M 482 q)) → (∀ u1, 0 ≤ u1 → u1 < u → ¬ Lik M r t q u1) → (M 476 (M 482 q) - u).toNat < n_32 → Ok g mX9_isFirst (rmd 1) (FQ g (pIP (fun z => (z = 1 ∧ Fst M r t) ∨ (z = 0 ∧ ¬ Fst M r t)) M)) 32 [(0, rv g 468), (1, iv r), (2, iv t), (3, iv q), (4, iv (M 476 (M 482 q))), (5, iv u)] [] M := by
            intro n_32
            induction n_32 with
            | zero => intro u l0 l1 l2 hn_32; exact absurd hn_32 (Nat.not_lt_zero _)
            | succ n_32 ih_32 =>
              intro u l0 l1 l2 hn_32
              refine x_iload 5 dX9_isFirst_32 rfl ?_
              refine x_iload 4 dX9_isFirst_34 rfl ?_
              refine x_icmp_ge (tgt := 59) dX9_isFirst_36 (by decide) ⟨by omega, by omega⟩ ⟨by omega, by omega⟩ (fun c7 => ?_) (fun c7 => ?_)
              · refine x_iinc (z := q) (lv' := [(3, iv (q + 1)), (0, rv g 468), (1, iv r), (2, iv t), (4, iv (M 476 (M 482 q))), (5, iv u)]) 3 dX9_isFirst_59 rfl (Nat.le_of_ble_eq_true rfl) rfl ?_
                refine x_goto (tgt := 2) dX9_isFirst_62 (by decide) ?_
                refine x_sub [1, 2, 3, 0] rfl ?_
                exact ih_2 _ (by omega) (by omega) (by intro q1 u e0 e1 e2 e3; rcases Int.lt_or_eq_of_le (show q1 ≤ q by omega) with e | e; exact j2 q1 u e0 e e2 e3; subst e; exact l2 u e2 (by split at e3 <;> omega)) (by omega)
              · refine x_aload_n 0 dX9_isFirst_39 rfl rfl ?_
                refine x_iload_n 1 dX9_isFirst_40 rfl rfl ?_
                refine x_iload_n 2 dX9_isFirst_41 rfl rfl ?_
                refine x_iload_n 3 dX9_isFirst_42 rfl rfl ?_
                refine x_iload 5 dX9_isFirst_43 rfl ?_
                refine x_callVIP (as := [iv r, iv t, iv q, iv u]) (rest := []) dX9_isFirst_45 vl9_202 k_468 (c_X9_areAlike g M r t q u I (by omega) (by omega) (by omega) (by omega) (by omega) (by omega) (by omega) (by omega)) rfl rfl (Nat.le_of_ble_eq_true rfl) ⟨Nat.le_of_ble_eq_true rfl, Nat.le_of_ble_eq_true rfl⟩ (fun z8 h9 => ?_)
                refine x_if_eq (tgt := 53) dX9_isFirst_48 (by decide) ⟨by omega, by omega⟩ (fun c11 => ?_) (fun c11 => ?_)
                · refine x_iinc (z := u) (lv' := [(5, iv (u + 1)), (0, rv g 468), (1, iv r), (2, iv t), (3, iv q), (4, iv (M 476 (M 482 q)))]) 5 dX9_isFirst_53 rfl (Nat.le_of_ble_eq_true rfl) rfl ?_
                  refine x_goto (tgt := 32) dX9_isFirst_56 (by decide) ?_
                  refine x_sub [1, 2, 3, 4, 5, 0] rfl ?_
                  exact ih_32 _ (by omega) (by omega) (by exact ext_lt l2 (by (clear ih_2 ih_32; grind))) (by omega)
                · refine x_iconst (0) dX9_isFirst_51 rfl ?_
                  refine x_iret dX9_isFirst_52 rfl (iZ_bool (by omega)) ?_
                  refine ⟨_, rfl, rfl, Or.inr ⟨rfl, fun e => ?_⟩⟩
                  exact e q u (by omega) (by omega) (by omega) (by split <;> omega) (by (clear ih_2 ih_32; grind))
          refine x_sub [2, 3, 4, 5, 1, 0] rfl ?_
          exact h_32 _ _ (by omega) (by omega) (by intro u1 _ _; omega) (Nat.lt_succ_self _)
        · have e8 : M 482 q = M 482 r := by rw [c2]
          have e9 : M 476 (M 482 q) = M 476 (M 482 r) := by rw [e8]
          refine x_iload_n 2 dX9_isFirst_12 rfl rfl ?_
          refine x_goto (tgt := 27) dX9_isFirst_13 (by decide) ?_
          refine x_istore (lv' := [(4, iv t), (0, rv g 468), (1, iv r), (2, iv t), (3, iv q)]) dX9_isFirst_27 (Nat.le_of_ble_eq_true rfl) rfl ?_
          refine x_iconst (0) dX9_isFirst_29 rfl ?_
          refine x_istore (lv' := [(5, iv 0), (4, iv t), (0, rv g 468), (1, iv r), (2, iv t), (3, iv q)]) dX9_isFirst_30 (Nat.le_of_ble_eq_true rfl) rfl ?_
          have h_32 : ∀ (n_32 : Nat) (u : Int), (0 ≤ u) → (u ≤ t) → (∀ u1, 0 ≤ u1 → u1 < u → ¬ Lik M r t q u1) → (t - u).toNat < n_32 → Ok g mX9_isFirst (rmd 1) (FQ g (pIP (fun z => (z = 1 ∧ Fst M r t) ∨ (z = 0 ∧ ¬ Fst M r t)) M)) 32 [(0, rv g 468), (1, iv r), (2, iv t), (3, iv q), (4, iv t), (5, iv u)] [] M := by
            intro n_32
            induction n_32 with
            | zero => intro u l0 l1 l2 hn_32; exact absurd hn_32 (Nat.not_lt_zero _)
            | succ n_32 ih_32 =>
              intro u l0 l1 l2 hn_32
              refine x_iload 5 dX9_isFirst_32 rfl ?_
              refine x_iload 4 dX9_isFirst_34 rfl ?_
              refine x_icmp_ge (tgt := 59) dX9_isFirst_36 (by decide) ⟨by omega, by omega⟩ ⟨by omega, by omega⟩ (fun c12 => ?_) (fun c12 => ?_)
              · refine x_iinc (z := q) (lv' := [(3, iv (q + 1)), (0, rv g 468), (1, iv r), (2, iv t), (4, iv t), (5, iv u)]) 3 dX9_isFirst_59 rfl (Nat.le_of_ble_eq_true rfl) rfl ?_
                refine x_goto (tgt := 2) dX9_isFirst_62 (by decide) ?_
                refine x_sub [1, 2, 3, 0] rfl ?_
                exact ih_2 _ (by omega) (by omega) (by intro q1 u e0 e1 e2 e3; rcases Int.lt_or_eq_of_le (show q1 ≤ q by omega) with e | e; exact j2 q1 u e0 e e2 e3; subst e; exact l2 u e2 (by split at e3 <;> omega)) (by omega)
              · refine x_aload_n 0 dX9_isFirst_39 rfl rfl ?_
                refine x_iload_n 1 dX9_isFirst_40 rfl rfl ?_
                refine x_iload_n 2 dX9_isFirst_41 rfl rfl ?_
                refine x_iload_n 3 dX9_isFirst_42 rfl rfl ?_
                refine x_iload 5 dX9_isFirst_43 rfl ?_
                refine x_callVIP (as := [iv r, iv t, iv q, iv u]) (rest := []) dX9_isFirst_45 vl9_202 k_468 (c_X9_areAlike g M r t q u I (by omega) (by omega) (by omega) (by omega) (by omega) (by omega) (by omega) (by omega)) rfl rfl (Nat.le_of_ble_eq_true rfl) ⟨Nat.le_of_ble_eq_true rfl, Nat.le_of_ble_eq_true rfl⟩ (fun z13 h14 => ?_)
                refine x_if_eq (tgt := 53) dX9_isFirst_48 (by decide) ⟨by omega, by omega⟩ (fun c16 => ?_) (fun c16 => ?_)
                · refine x_iinc (z := u) (lv' := [(5, iv (u + 1)), (0, rv g 468), (1, iv r), (2, iv t), (3, iv q), (4, iv t)]) 5 dX9_isFirst_53 rfl (Nat.le_of_ble_eq_true rfl) rfl ?_
                  refine x_goto (tgt := 32) dX9_isFirst_56 (by decide) ?_
                  refine x_sub [1, 2, 3, 4, 5, 0] rfl ?_
                  exact ih_32 _ (by omega) (by omega) (by exact ext_lt l2 (by (clear ih_2 ih_32; grind))) (by omega)
                · refine x_iconst (0) dX9_isFirst_51 rfl ?_
                  refine x_iret dX9_isFirst_52 rfl (iZ_bool (by omega)) ?_
                  refine ⟨_, rfl, rfl, Or.inr ⟨rfl, fun e => ?_⟩⟩
                  exact e q u (by omega) (by omega) (by omega) (by split <;> omega) (by (clear ih_2 ih_32; grind))
          refine x_sub [2, 3, 4, 5, 1, 0] rfl ?_
          exact h_32 _ _ (by omega) (by omega) (by intro u1 _ _; omega) (Nat.lt_succ_self _)
  refine x_iconst (0) dX9_isFirst_0 rfl ?_
  refine x_istore_n (lv' := [(3, iv 0), (0, rv g 468), (1, iv r), (2, iv t)]) dX9_isFirst_1 rfl (Nat.le_of_ble_eq_true rfl) rfl ?_
  refine x_sub [1, 2, 3, 0] rfl ?_
  exact h_2 _ _ (by omega) (by omega) (by intro q1 u _ _; omega) (Nat.lt_succ_self _)
