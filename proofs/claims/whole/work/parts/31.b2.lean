set_option maxHeartbeats 600000 in
set_option maxRecDepth 100000 in
theorem c_X9_pendingIn (g : GG) (M : Mem) (t : Int) (I : RB M) (t0 : 0 ≤ t) (t1 : t ≤ 100) : Ct g yX9_pendingIn cX9_pendingIn 3 (some .int) 2 [rv g 468, iv t] M (pIP (fun z => z = lst (fun p => 0 < pnd M t p) (M 468 9)) M) := by
  refine ct_of (by decide +kernel) (Nat.le_of_ble_eq_true rfl) ?_
  show Ok g mX9_pendingIn (rmd 2) (FQ g (pIP (fun z => z = lst (fun p => 0 < pnd M t p) (M 468 9)) M)) 0 [(0, rv g 468), (1, iv t)] [] M
  have i0 := I.rng
  have h_2 : ∀ (n_2 : Nat) (p : Int), (0 ≤ p) → (p ≤ M 468 9) → (∀ q, 0 ≤ q → q < p → ¬ 0 < pnd M t q) → (M 468 9 - p).toNat < n_2 → Ok g mX9_pendingIn (rmd 2) (FQ g (pIP (fun z => z = lst (fun p => 0 < pnd M t p) (M 468 9)) M)) 2 [(0, rv g 468), (1, iv t), (2, iv p)] [] M := by
    intro n_2
    induction n_2 with
    | zero => intro p j0 j1 j2 hn_2; exact absurd hn_2 (Nat.not_lt_zero _)
    | succ n_2 ih_2 =>
      intro p j0 j1 j2 hn_2
      refine x_iload_n 2 dX9_pendingIn_2 rfl rfl ?_
      refine x_aload_n 0 dX9_pendingIn_3 rfl rfl ?_
      refine x_geti (k := 9) (kI := 9) dX9_pendingIn_4 fl9_124 k_468 rfl rfl (fun ⟨a1, a1'⟩ => ?_)
      refine x_icmp_ge (tgt := 27) dX9_pendingIn_7 (by decide) ⟨by omega, by omega⟩ ⟨by omega, by omega⟩ (fun c2 => ?_) (fun c2 => ?_)
      · refine x_iconst (-1) dX9_pendingIn_27 rfl ?_
        refine x_iret dX9_pendingIn_28 rfl rfl ?_
        exact ⟨_, rfl, rfl, (lst_eq (by omega) (Or.inl ⟨by omega, fun q q0 q1 => j2 q q0 (by omega)⟩)).symm⟩
      · refine x_aload_n 0 dX9_pendingIn_10 rfl rfl ?_
        refine x_iload_n 1 dX9_pendingIn_11 rfl rfl ?_
        refine x_iload_n 2 dX9_pendingIn_12 rfl rfl ?_
        refine x_callVIP (as := [iv t, iv p]) (rest := []) dX9_pendingIn_13 vl9_212 k_468 (c_X9_pendingOf g M t p I (by omega) (by omega) (by omega) (by omega)) rfl rfl (Nat.le_of_ble_eq_true rfl) ⟨Nat.le_of_ble_eq_true rfl, Nat.le_of_ble_eq_true rfl⟩ (fun z3 h4 => ?_)
        have h4r := cnt_range (fun r => M 481 r = t ∧ M 482 r = p ∧ Pnd M r) (n := M 468 18) (by omega)
        change 0 ≤ pnd M t p ∧ pnd M t p ≤ _ at h4r
        rw [← h4] at h4r
        refine x_if_le (tgt := 21) dX9_pendingIn_16 (by decide) ⟨by omega, by omega⟩ (fun c6 => ?_) (fun c6 => ?_)
        · refine x_iinc (z := p) (lv' := [(2, iv (p + 1)), (0, rv g 468), (1, iv t)]) 2 dX9_pendingIn_21 rfl (Nat.le_of_ble_eq_true rfl) rfl ?_
          refine x_goto (tgt := 2) dX9_pendingIn_24 (by decide) ?_
          refine x_sub [1, 2, 0] rfl ?_
          exact ih_2 _ (by omega) (by omega) (by exact ext_lt j2 (by omega)) (by omega)
        · refine x_iload_n 2 dX9_pendingIn_19 rfl rfl ?_
          refine x_iret dX9_pendingIn_20 rfl rfl ?_
          exact ⟨_, rfl, rfl, (lst_eq (by omega) (Or.inr ⟨by omega, by omega, by omega, j2⟩)).symm⟩
  refine x_iconst (0) dX9_pendingIn_0 rfl ?_
  refine x_istore_n (lv' := [(2, iv 0), (0, rv g 468), (1, iv t)]) dX9_pendingIn_1 rfl (Nat.le_of_ble_eq_true rfl) rfl ?_
  refine x_sub [1, 2, 0] rfl ?_
  exact h_2 _ _ (by omega) (by omega) (by intro q _ _; omega) (Nat.lt_succ_self _)

set_option maxHeartbeats 600000 in
set_option maxRecDepth 100000 in
theorem c_X9_firstOf (g : GG) (M : Mem) (t p b : Int) (I : RB M) (t0 : 0 ≤ t) (t1 : t ≤ 100) (p0 : 0 ≤ p) (p1 : p ≤ 100) (b0 : b = 0 ∨ b = 1) : Ct g yX9_firstOf cX9_firstOf 5 (some .int) 2 [rv g 468, iv t, iv p, iv b] M (pIP (fun z => z = fstR M b t p (M 468 18)) M) := by
  refine ct_of (by decide +kernel) (Nat.le_of_ble_eq_true rfl) ?_
  show Ok g mX9_firstOf (rmd 2) (FQ g (pIP (fun z => z = fstR M b t p (M 468 18)) M)) 0 [(0, rv g 468), (1, iv t), (2, iv p), (3, iv b)] [] M
  have i0 := I.rng
  have h_3 : ∀ (n_3 : Nat) (r : Int), (0 ≤ r) → (r ≤ M 468 18) → (∀ q, 0 ≤ q → q < r → ¬ ((M 481 (q)) = t ∧ (M 482 (q)) = p ∧ Vis M b q ∧ Acc M q)) → (M 468 18 - r).toNat < n_3 → Ok g mX9_firstOf (rmd 2) (FQ g (pIP (fun z => z = fstR M b t p (M 468 18)) M)) 3 [(0, rv g 468), (1, iv t), (2, iv p), (3, iv b), (4, iv r)] [] M := by
    intro n_3
    induction n_3 with
    | zero => intro r j0 j1 j2 hn_3; exact absurd hn_3 (Nat.not_lt_zero _)
    | succ n_3 ih_3 =>
      intro r j0 j1 j2 hn_3
      refine x_iload 4 dX9_firstOf_3 rfl ?_
      refine x_aload_n 0 dX9_firstOf_5 rfl rfl ?_
      refine x_geti (k := 18) (kI := 18) dX9_firstOf_6 fl9_130 k_468 rfl rfl (fun ⟨a1, a1'⟩ => ?_)
      refine x_icmp_ge (tgt := 67) dX9_firstOf_9 (by decide) ⟨by omega, by omega⟩ ⟨by omega, by omega⟩ (fun c2 => ?_) (fun c2 => ?_)
      · refine x_iconst (-1) dX9_firstOf_67 rfl ?_
        refine x_iret dX9_firstOf_68 rfl rfl ?_
        exact ⟨_, rfl, rfl, (lst_eq (by omega) (Or.inl ⟨by omega, fun q q0 q1 => j2 q q0 (by omega)⟩)).symm⟩
      · have i1 := I.run r (by omega) (by omega)
        refine x_aload_n 0 dX9_firstOf_12 rfl rfl ?_
        refine x_getr (k := 19) (d := 13) dX9_firstOf_13 fl9_47 k_468 rfl (fun k3 => ?_)
        have k3 : isK 20 40 481 := k3
        show Ok g mX9_firstOf (rmd 2) (FQ g (pIP (fun z => z = fstR M b t p (M 468 18)) M)) 16 [(0, rv g 468), (1, iv t), (2, iv p), (3, iv b), (4, iv r)] [rv g 481] M
        refine x_iload 4 dX9_firstOf_16 rfl ?_
        refine x_iald dX9_firstOf_18 k3 (by omega) (by omega) (by decide) (fun ⟨a4, a4'⟩ => ?_)
        refine x_iload_n 1 dX9_firstOf_19 rfl rfl ?_
        refine x_icmp_ne (tgt := 61) dX9_firstOf_20 (by decide) ⟨by omega, by omega⟩ ⟨by omega, by omega⟩ (fun c5 => ?_) (fun c5 => ?_)
        · refine x_iinc (z := r) (lv' := [(4, iv (r + 1)), (0, rv g 468), (1, iv t), (2, iv p), (3, iv b)]) 4 dX9_firstOf_61 rfl (Nat.le_of_ble_eq_true rfl) rfl ?_
          refine x_goto (tgt := 3) dX9_firstOf_64 (by decide) ?_
          refine x_sub [1, 2, 3, 4, 0] rfl ?_
          exact ih_3 _ (by omega) (by omega) (by exact ext_lt j2 (by unfold Vis; (clear ih_3; grind))) (by omega)
        · refine x_aload_n 0 dX9_firstOf_23 rfl rfl ?_
          refine x_getr (k := 20) (d := 14) dX9_firstOf_24 fl9_50 k_468 rfl (fun k6 => ?_)
          have k6 : isK 20 40 482 := k6
          show Ok g mX9_firstOf (rmd 2) (FQ g (pIP (fun z => z = fstR M b t p (M 468 18)) M)) 27 [(0, rv g 468), (1, iv t), (2, iv p), (3, iv b), (4, iv r)] [rv g 482] M
          refine x_iload 4 dX9_firstOf_27 rfl ?_
          refine x_iald dX9_firstOf_29 k6 (by omega) (by omega) (by decide) (fun ⟨a7, a7'⟩ => ?_)
          refine x_iload_n 2 dX9_firstOf_30 rfl rfl ?_
          refine x_icmp_ne (tgt := 61) dX9_firstOf_31 (by decide) ⟨by omega, by omega⟩ ⟨by omega, by omega⟩ (fun c8 => ?_) (fun c8 => ?_)
          · refine x_iinc (z := r) (lv' := [(4, iv (r + 1)), (0, rv g 468), (1, iv t), (2, iv p), (3, iv b)]) 4 dX9_firstOf_61 rfl (Nat.le_of_ble_eq_true rfl) rfl ?_
            refine x_goto (tgt := 3) dX9_firstOf_64 (by decide) ?_
            refine x_sub [1, 2, 3, 4, 0] rfl ?_
            exact ih_3 _ (by omega) (by omega) (by exact ext_lt j2 (by unfold Vis; (clear ih_3; grind))) (by omega)
          · refine x_iload_n 3 dX9_firstOf_34 rfl rfl ?_
            refine x_if_eq (tgt := 47) dX9_firstOf_35 (by decide) ⟨by omega, by omega⟩ (fun c9 => ?_) (fun c9 => ?_)
            · refine x_aload_n 0 dX9_firstOf_47 rfl rfl ?_
              refine x_iload 4 dX9_firstOf_48 rfl ?_
              refine x_callVIP (as := [iv r]) (rest := []) dX9_firstOf_50 vl9_160 k_468 (c_X9_verdictOf g M r I (by omega) (by omega)) rfl rfl (Nat.le_of_ble_eq_true rfl) ⟨Nat.le_of_ble_eq_true rfl, Nat.le_of_ble_eq_true rfl⟩ (fun z10 h11 => ?_)
              have h11a := vz_acc I (r := r) (by omega) (by omega)
              rw [← h11.1] at h11a
              refine x_bipush (97) dX9_firstOf_53 rfl ?_
              refine x_icmp_ne (tgt := 61) dX9_firstOf_55 (by decide) ⟨by omega, by omega⟩ ⟨by decide, by decide⟩ (fun c13 => ?_) (fun c13 => ?_)
              · refine x_iinc (z := r) (lv' := [(4, iv (r + 1)), (0, rv g 468), (1, iv t), (2, iv p), (3, iv b)]) 4 dX9_firstOf_61 rfl (Nat.le_of_ble_eq_true rfl) rfl ?_
                refine x_goto (tgt := 3) dX9_firstOf_64 (by decide) ?_
                refine x_sub [1, 2, 3, 4, 0] rfl ?_
                exact ih_3 _ (by omega) (by omega) (by exact ext_lt j2 (by unfold Vis; (clear ih_3; grind))) (by omega)
              · refine x_iload 4 dX9_firstOf_58 rfl ?_
                refine x_iret dX9_firstOf_60 rfl rfl ?_
                exact ⟨_, rfl, rfl, (lst_eq (by omega) (Or.inr ⟨by omega, by omega, ⟨by omega, by omega, by unfold Vis; (clear ih_3; grind), by (clear ih_3; grind)⟩, j2⟩)).symm⟩
            · refine x_aload_n 0 dX9_firstOf_38 rfl rfl ?_
              refine x_iload 4 dX9_firstOf_39 rfl ?_
              refine x_callVIP (as := [iv r]) (rest := []) dX9_firstOf_41 vl9_209 k_468 (c_X9_isPending g M r I (by omega) (by omega)) rfl rfl (Nat.le_of_ble_eq_true rfl) ⟨Nat.le_of_ble_eq_true rfl, Nat.le_of_ble_eq_true rfl⟩ (fun z14 h15 => ?_)
              refine x_if_ne (tgt := 61) dX9_firstOf_44 (by decide) ⟨by omega, by omega⟩ (fun c17 => ?_) (fun c17 => ?_)
              · refine x_iinc (z := r) (lv' := [(4, iv (r + 1)), (0, rv g 468), (1, iv t), (2, iv p), (3, iv b)]) 4 dX9_firstOf_61 rfl (Nat.le_of_ble_eq_true rfl) rfl ?_
                refine x_goto (tgt := 3) dX9_firstOf_64 (by decide) ?_
                refine x_sub [1, 2, 3, 4, 0] rfl ?_
                exact ih_3 _ (by omega) (by omega) (by exact ext_lt j2 (by unfold Vis; (clear ih_3; grind))) (by omega)
              · refine x_aload_n 0 dX9_firstOf_47 rfl rfl ?_
                refine x_iload 4 dX9_firstOf_48 rfl ?_
                refine x_callVIP (as := [iv r]) (rest := []) dX9_firstOf_50 vl9_160 k_468 (c_X9_verdictOf g M r I (by omega) (by omega)) rfl rfl (Nat.le_of_ble_eq_true rfl) ⟨Nat.le_of_ble_eq_true rfl, Nat.le_of_ble_eq_true rfl⟩ (fun z18 h19 => ?_)
                have h19a := vz_acc I (r := r) (by omega) (by omega)
                rw [← h19.1] at h19a
                refine x_bipush (97) dX9_firstOf_53 rfl ?_
                refine x_icmp_ne (tgt := 61) dX9_firstOf_55 (by decide) ⟨by omega, by omega⟩ ⟨by decide, by decide⟩ (fun c21 => ?_) (fun c21 => ?_)
                · refine x_iinc (z := r) (lv' := [(4, iv (r + 1)), (0, rv g 468), (1, iv t), (2, iv p), (3, iv b)]) 4 dX9_firstOf_61 rfl (Nat.le_of_ble_eq_true rfl) rfl ?_
                  refine x_goto (tgt := 3) dX9_firstOf_64 (by decide) ?_
                  refine x_sub [1, 2, 3, 4, 0] rfl ?_
                  exact ih_3 _ (by omega) (by omega) (by exact ext_lt j2 (by unfold Vis; (clear ih_3; grind))) (by omega)
                · refine x_iload 4 dX9_firstOf_58 rfl ?_
                  refine x_iret dX9_firstOf_60 rfl rfl ?_
                  exact ⟨_, rfl, rfl, (lst_eq (by omega) (Or.inr ⟨by omega, by omega, ⟨by omega, by omega, by unfold Vis; (clear ih_3; grind), by (clear ih_3; grind)⟩, j2⟩)).symm⟩
  refine x_iconst (0) dX9_firstOf_0 rfl ?_
  refine x_istore (lv' := [(4, iv 0), (0, rv g 468), (1, iv t), (2, iv p), (3, iv b)]) dX9_firstOf_1 (Nat.le_of_ble_eq_true rfl) rfl ?_
  refine x_sub [1, 2, 3, 4, 0] rfl ?_
  exact h_3 _ _ (by omega) (by omega) (by intro q _ _; omega) (Nat.lt_succ_self _)

set_option maxHeartbeats 600000 in
set_option maxRecDepth 100000 in
theorem c_X9_solvedBy (g : GG) (M : Mem) (t b : Int) (I : RB M) (t0 : 0 ≤ t) (t1 : t ≤ 100) (b0 : b = 0 ∨ b = 1) : Ct g yX9_solvedBy cX9_solvedBy 5 (some .int) 3 [rv g 468, iv t, iv b] M (pIP (fun z => z = solR M b t (M 468 18)) M) := by
  refine ct_of (by decide +kernel) (Nat.le_of_ble_eq_true rfl) ?_
  show Ok g mX9_solvedBy (rmd 3) (FQ g (pIP (fun z => z = solR M b t (M 468 18)) M)) 0 [(0, rv g 468), (1, iv t), (2, iv b)] [] M
  have i0 := I.rng
  have h_5 : ∀ (n_5 : Nat) (s : Int) (p : Int), (0 ≤ p) → (p ≤ M 468 9) → (s = sm (fun p => sol1 M b t p (M 468 18)) p) → (M 468 9 - p).toNat < n_5 → Ok g mX9_solvedBy (rmd 3) (FQ g (pIP (fun z => z = solR M b t (M 468 18)) M)) 5 [(0, rv g 468), (1, iv t), (2, iv b), (3, iv s), (4, iv p)] [] M := by
    intro n_5
    induction n_5 with
    | zero => intro s p j0 j1 j2 hn_5; exact absurd hn_5 (Nat.not_lt_zero _)
    | succ n_5 ih_5 =>
      intro s p j0 j1 j2 hn_5
      refine x_iload 4 dX9_solvedBy_5 rfl ?_
      refine x_aload_n 0 dX9_solvedBy_7 rfl rfl ?_
      refine x_geti (k := 9) (kI := 9) dX9_solvedBy_8 fl9_124 k_468 rfl rfl (fun ⟨a1, a1'⟩ => ?_)
      refine x_icmp_ge (tgt := 40) dX9_solvedBy_11 (by decide) ⟨by omega, by omega⟩ ⟨by omega, by omega⟩ (fun c2 => ?_) (fun c2 => ?_)
      · refine x_iload_n 3 dX9_solvedBy_40 rfl rfl ?_
        refine x_iret dX9_solvedBy_41 rfl rfl ?_
        exact ⟨_, rfl, rfl, by rw [j2, show p = M 468 9 by omega]; rfl⟩
      · refine x_iload_n 3 dX9_solvedBy_14 rfl rfl ?_
        refine x_aload_n 0 dX9_solvedBy_15 rfl rfl ?_
        refine x_iload_n 1 dX9_solvedBy_16 rfl rfl ?_
        refine x_iload 4 dX9_solvedBy_17 rfl ?_
        refine x_iload_n 2 dX9_solvedBy_19 rfl rfl ?_
        refine x_callVIP (as := [iv t, iv p, iv b]) (rest := [iv s]) dX9_solvedBy_20 vl9_222 k_468 (c_X9_firstOf g M t p b I (by omega) (by omega) (by omega) (by omega) b0) rfl rfl (Nat.le_of_ble_eq_true rfl) ⟨Nat.le_of_ble_eq_true rfl, Nat.le_of_ble_eq_true rfl⟩ (fun z3 h4 => ?_)
        have h4r := lst_range (fun r => M 481 r = t ∧ M 482 r = p ∧ Vis M b r ∧ Acc M r) (n := M 468 18) (by omega)
        change fstR M b t p (M 468 18) = -1 ∨ (0 ≤ fstR M b t p (M 468 18) ∧ fstR M b t p (M 468 18) < _) at h4r
        rw [← h4] at h4r
        refine x_iconst (-1) dX9_solvedBy_23 rfl ?_
        refine x_icmp_ne (tgt := 31) dX9_solvedBy_24 (by decide) ⟨by omega, by omega⟩ ⟨by decide, by decide⟩ (fun c6 => ?_) (fun c6 => ?_)
        · refine x_iconst (1) dX9_solvedBy_31 rfl ?_
          refine x_iadd dX9_solvedBy_32 ?_
          refine x_istore_n (lv' := [(3, iv (s + 1)), (0, rv g 468), (1, iv t), (2, iv b), (4, iv p)]) dX9_solvedBy_33 rfl (Nat.le_of_ble_eq_true rfl) rfl ?_
          refine x_iinc (z := p) (lv' := [(4, iv (p + 1)), (3, iv (s + 1)), (0, rv g 468), (1, iv t), (2, iv b)]) 4 dX9_solvedBy_34 rfl (Nat.le_of_ble_eq_true rfl) rfl ?_
          refine x_goto (tgt := 5) dX9_solvedBy_37 (by decide) ?_
          refine x_sub [2, 3, 4, 1, 0] rfl ?_
          exact ih_5 _ _ (by omega) (by omega) (by rw [sm_s (by omega), ← j2]; simp only [sol1]; (clear ih_5; grind)) (by omega)
        · refine x_iconst (0) dX9_solvedBy_27 rfl ?_
          refine x_goto (tgt := 32) dX9_solvedBy_28 (by decide) ?_
          refine x_iadd dX9_solvedBy_32 ?_
          refine x_istore_n (lv' := [(3, iv (s + 0)), (0, rv g 468), (1, iv t), (2, iv b), (4, iv p)]) dX9_solvedBy_33 rfl (Nat.le_of_ble_eq_true rfl) rfl ?_
          refine x_iinc (z := p) (lv' := [(4, iv (p + 1)), (3, iv (s + 0)), (0, rv g 468), (1, iv t), (2, iv b)]) 4 dX9_solvedBy_34 rfl (Nat.le_of_ble_eq_true rfl) rfl ?_
          refine x_goto (tgt := 5) dX9_solvedBy_37 (by decide) ?_
          refine x_sub [2, 3, 4, 1, 0] rfl ?_
          exact ih_5 _ _ (by omega) (by omega) (by rw [sm_s (by omega), ← j2]; simp only [sol1]; (clear ih_5; grind)) (by omega)
  refine x_iconst (0) dX9_solvedBy_0 rfl ?_
  refine x_istore_n (lv' := [(3, iv 0), (0, rv g 468), (1, iv t), (2, iv b)]) dX9_solvedBy_1 rfl (Nat.le_of_ble_eq_true rfl) rfl ?_
  refine x_iconst (0) dX9_solvedBy_2 rfl ?_
  refine x_istore (lv' := [(4, iv 0), (3, iv 0), (0, rv g 468), (1, iv t), (2, iv b)]) dX9_solvedBy_3 (Nat.le_of_ble_eq_true rfl) rfl ?_
  refine x_sub [2, 3, 4, 1, 0] rfl ?_
  exact h_5 _ _ _ (by omega) (by omega) (by exact (sm_0 _).symm) (Nat.lt_succ_self _)

set_option maxHeartbeats 600000 in
set_option maxRecDepth 100000 in
theorem c_X9_penaltyOf (g : GG) (M : Mem) (t b : Int) (I : RB M) (t0 : 0 ≤ t) (t1 : t ≤ 100) (b0 : b = 0 ∨ b = 1) : Ct g yX9_penaltyOf cX9_penaltyOf 7 (some .int) 3 [rv g 468, iv t, iv b] M (pIP (fun z => z = penS M b t (M 468 18)) M) := by
  refine ct_of (by decide +kernel) (Nat.le_of_ble_eq_true rfl) ?_
  show Ok g mX9_penaltyOf (rmd 3) (FQ g (pIP (fun z => z = penS M b t (M 468 18)) M)) 0 [(0, rv g 468), (1, iv t), (2, iv b)] [] M
  have i0 := I.rng
  have h_5 : ∀ (n_5 : Nat) (s : Int) (p : Int), (0 ≤ p) → (p ≤ M 468 9) → (s = sm (fun p => penR M b t p (M 468 18)) p) → (0 ≤ s ∧ s ≤ 2000 * p) → (M 468 9 - p).toNat < n_5 → Ok g mX9_penaltyOf (rmd 3) (FQ g (pIP (fun z => z = penS M b t (M 468 18)) M)) 5 [(0, rv g 468), (1, iv t), (2, iv b), (3, iv s), (4, iv p)] [] M := by
    intro n_5
    induction n_5 with
    | zero => intro s p j0 j1 j2 j3 hn_5; exact absurd hn_5 (Nat.not_lt_zero _)
    | succ n_5 ih_5 =>
      intro s p j0 j1 j2 j3 hn_5
      refine x_iload 4 dX9_penaltyOf_5 rfl ?_
      refine x_aload_n 0 dX9_penaltyOf_7 rfl rfl ?_
      refine x_geti (k := 9) (kI := 9) dX9_penaltyOf_8 fl9_124 k_468 rfl rfl (fun ⟨a1, a1'⟩ => ?_)
      refine x_icmp_ge (tgt := 110) dX9_penaltyOf_11 (by decide) ⟨by omega, by omega⟩ ⟨by omega, by omega⟩ (fun c2 => ?_) (fun c2 => ?_)
      · refine x_iload_n 3 dX9_penaltyOf_110 rfl rfl ?_
        refine x_iret dX9_penaltyOf_111 rfl rfl ?_
        exact ⟨_, rfl, rfl, by rw [j2, show p = M 468 9 by omega]; rfl⟩
      · refine x_aload_n 0 dX9_penaltyOf_14 rfl rfl ?_
        refine x_iload_n 1 dX9_penaltyOf_15 rfl rfl ?_
        refine x_iload 4 dX9_penaltyOf_16 rfl ?_
        refine x_iload_n 2 dX9_penaltyOf_18 rfl rfl ?_
        refine x_callVIP (as := [iv t, iv p, iv b]) (rest := []) dX9_penaltyOf_19 vl9_222 k_468 (c_X9_firstOf g M t p b I (by omega) (by omega) (by omega) (by omega) b0) rfl rfl (Nat.le_of_ble_eq_true rfl) ⟨Nat.le_of_ble_eq_true rfl, Nat.le_of_ble_eq_true rfl⟩ (fun z3 h4 => ?_)
        have h4r := lst_range (fun r => M 481 r = t ∧ M 482 r = p ∧ Vis M b r ∧ Acc M r) (n := M 468 18) (by omega)
        change fstR M b t p (M 468 18) = -1 ∨ (0 ≤ fstR M b t p (M 468 18) ∧ fstR M b t p (M 468 18) < _) at h4r
        rw [← h4] at h4r
        have hf := h4
        have hpr : penR M b t p (M 468 18) = if fstR M b t p (M 468 18) = -1 then 0 else M 483 (fstR M b t p (M 468 18)) + 20 * cnt (fun r => M 481 r = t ∧ M 482 r = p ∧ Vis M b r) (fstR M b t p (M 468 18)) := rfl
        rw [← hf] at hpr
        refine x_istore (lv' := [(5, iv z3), (0, rv g 468), (1, iv t), (2, iv b), (3, iv s), (4, iv p)]) dX9_penaltyOf_22 (Nat.le_of_ble_eq_true rfl) rfl ?_
        refine x_iload 0 dX9_penaltyOf_24 rfl ?_
        refine x_iconst (-1) dX9_penaltyOf_26 rfl ?_
        refine x_icmp_ne (tgt := 33) dX9_penaltyOf_27 (by decide) ⟨by omega, by omega⟩ ⟨by decide, by decide⟩ (fun c6 => ?_) (fun c6 => ?_)
        · have i2 := I.run z3 (by omega) (by omega)
          refine x_iload_n 4 dX9_penaltyOf_33 rfl rfl ?_
          refine x_aload_n 1 dX9_penaltyOf_34 rfl rfl ?_
          refine x_getr (k := 21) (d := 15) dX9_penaltyOf_35 fl9_53 k_468 rfl (fun k7 => ?_)
          have k7 : isK 20 40 483 := k7
          show Ok g mX9_penaltyOf (rmd 3) (FQ g (pIP (fun z => z = penS M b t (M 468 18)) M)) 38 [(5, iv z3), (0, rv g 468), (1, iv t), (2, iv b), (3, iv s), (4, iv p)] [rv g 483, iv s] M
          refine x_iload 0 dX9_penaltyOf_38 rfl ?_
          refine x_iald dX9_penaltyOf_40 k7 (by omega) (by omega) (by decide) (fun ⟨a8, a8'⟩ => ?_)
          refine x_iadd dX9_penaltyOf_41 ?_
          refine x_istore_n (lv' := [(3, iv (s + (M 483 z3))), (5, iv z3), (0, rv g 468), (1, iv t), (2, iv b), (4, iv p)]) dX9_penaltyOf_42 rfl (Nat.le_of_ble_eq_true rfl) rfl ?_
          refine x_iconst (0) dX9_penaltyOf_43 rfl ?_
          refine x_istore (lv' := [(6, iv 0), (3, iv (s + (M 483 z3))), (5, iv z3), (0, rv g 468), (1, iv t), (2, iv b), (4, iv p)]) dX9_penaltyOf_44 (Nat.le_of_ble_eq_true rfl) rfl ?_
          have h_46 : ∀ (n_46 : Nat) (u : Int) (r : Int), (0 ≤ r) → (r ≤ z3) → (u = s + (M 483 (z3)) + 20 * cnt (fun r => (M 481 (r)) = t ∧ (M 482 (r)) = p ∧ Vis M b r) r) → (u ≤ s + 999 + 20 * r ∧ 0 ≤ u) → (z3 - r).toNat < n_46 → Ok g mX9_penaltyOf (rmd 3) (FQ g (pIP (fun z => z = penS M b t (M 468 18)) M)) 46 [(0, rv g 468), (1, iv t), (2, iv b), (3, iv u), (4, iv p), (5, iv z3), (6, iv r)] [] M := by
            intro n_46
            induction n_46 with
            | zero => intro u r l0 l1 l2 l3 hn_46; exact absurd hn_46 (Nat.not_lt_zero _)
            | succ n_46 ih_46 =>
              intro u r l0 l1 l2 l3 hn_46
              refine x_iload 6 dX9_penaltyOf_46 rfl ?_
              refine x_iload 5 dX9_penaltyOf_48 rfl ?_
              refine x_icmp_ge (tgt := 104) dX9_penaltyOf_50 (by decide) ⟨by omega, by omega⟩ ⟨by omega, by omega⟩ (fun c9 => ?_) (fun c9 => ?_)
              · refine x_iinc (z := p) (lv' := [(4, iv (p + 1)), (0, rv g 468), (1, iv t), (2, iv b), (3, iv u), (5, iv z3), (6, iv r)]) 4 dX9_penaltyOf_104 rfl (Nat.le_of_ble_eq_true rfl) rfl ?_
                refine x_goto (tgt := 5) dX9_penaltyOf_107 (by decide) ?_
                refine x_sub [1, 2, 3, 4, 0] rfl ?_
                exact ih_5 _ _ (by omega) (by omega) (by rw [sm_s (by omega), ← j2]; (clear ih_5 ih_46; grind)) (by omega) (by omega)
              · have i3 := I.run r (by omega) (by omega)
                refine x_iload_n 3 dX9_penaltyOf_53 rfl rfl ?_
                refine x_aload_n 0 dX9_penaltyOf_54 rfl rfl ?_
                refine x_getr (k := 19) (d := 13) dX9_penaltyOf_55 fl9_47 k_468 rfl (fun k10 => ?_)
                have k10 : isK 20 40 481 := k10
                show Ok g mX9_penaltyOf (rmd 3) (FQ g (pIP (fun z => z = penS M b t (M 468 18)) M)) 58 [(0, rv g 468), (1, iv t), (2, iv b), (3, iv u), (4, iv p), (5, iv z3), (6, iv r)] [rv g 481, iv u] M
                refine x_iload 6 dX9_penaltyOf_58 rfl ?_
                refine x_iald dX9_penaltyOf_60 k10 (by omega) (by omega) (by decide) (fun ⟨a11, a11'⟩ => ?_)
                refine x_iload_n 1 dX9_penaltyOf_61 rfl rfl ?_
                refine x_icmp_ne (tgt := 95) dX9_penaltyOf_62 (by decide) ⟨by omega, by omega⟩ ⟨by omega, by omega⟩ (fun c12 => ?_) (fun c12 => ?_)
                · refine x_iconst (0) dX9_penaltyOf_95 rfl ?_
                  refine x_iadd dX9_penaltyOf_96 ?_
                  refine x_istore_n (lv' := [(3, iv (u + 0)), (0, rv g 468), (1, iv t), (2, iv b), (4, iv p), (5, iv z3), (6, iv r)]) dX9_penaltyOf_97 rfl (Nat.le_of_ble_eq_true rfl) rfl ?_
                  refine x_iinc (z := r) (lv' := [(6, iv (r + 1)), (3, iv (u + 0)), (0, rv g 468), (1, iv t), (2, iv b), (4, iv p), (5, iv z3)]) 6 dX9_penaltyOf_98 rfl (Nat.le_of_ble_eq_true rfl) rfl ?_
                  refine x_goto (tgt := 46) dX9_penaltyOf_101 (by decide) ?_
                  refine x_sub [2, 3, 4, 1, 5, 6, 0] rfl ?_
                  exact ih_46 _ _ (by omega) (by omega) (by rw [cnt_f (by omega) (by rintro ⟨u1, u2, u3⟩; first | omega | (revert u3; unfold Vis; (clear ih_5 ih_46; grind)))]; omega) (by omega) (by omega)
                · refine x_aload_n 0 dX9_penaltyOf_65 rfl rfl ?_
                  refine x_getr (k := 20) (d := 14) dX9_penaltyOf_66 fl9_50 k_468 rfl (fun k13 => ?_)
                  have k13 : isK 20 40 482 := k13
                  show Ok g mX9_penaltyOf (rmd 3) (FQ g (pIP (fun z => z = penS M b t (M 468 18)) M)) 69 [(0, rv g 468), (1, iv t), (2, iv b), (3, iv u), (4, iv p), (5, iv z3), (6, iv r)] [rv g 482, iv u] M
                  refine x_iload 6 dX9_penaltyOf_69 rfl ?_
                  refine x_iald dX9_penaltyOf_71 k13 (by omega) (by omega) (by decide) (fun ⟨a14, a14'⟩ => ?_)
                  refine x_iload 4 dX9_penaltyOf_72 rfl ?_
                  refine x_icmp_ne (tgt := 95) dX9_penaltyOf_74 (by decide) ⟨by omega, by omega⟩ ⟨by omega, by omega⟩ (fun c15 => ?_) (fun c15 => ?_)
                  · refine x_iconst (0) dX9_penaltyOf_95 rfl ?_
                    refine x_iadd dX9_penaltyOf_96 ?_
                    refine x_istore_n (lv' := [(3, iv (u + 0)), (0, rv g 468), (1, iv t), (2, iv b), (4, iv p), (5, iv z3), (6, iv r)]) dX9_penaltyOf_97 rfl (Nat.le_of_ble_eq_true rfl) rfl ?_
                    refine x_iinc (z := r) (lv' := [(6, iv (r + 1)), (3, iv (u + 0)), (0, rv g 468), (1, iv t), (2, iv b), (4, iv p), (5, iv z3)]) 6 dX9_penaltyOf_98 rfl (Nat.le_of_ble_eq_true rfl) rfl ?_
                    refine x_goto (tgt := 46) dX9_penaltyOf_101 (by decide) ?_
                    refine x_sub [2, 3, 4, 1, 5, 6, 0] rfl ?_
                    exact ih_46 _ _ (by omega) (by omega) (by rw [cnt_f (by omega) (by rintro ⟨u1, u2, u3⟩; first | omega | (revert u3; unfold Vis; (clear ih_5 ih_46; grind)))]; omega) (by omega) (by omega)
                  · refine x_iload_n 2 dX9_penaltyOf_77 rfl rfl ?_
                    refine x_if_eq (tgt := 90) dX9_penaltyOf_78 (by decide) ⟨by omega, by omega⟩ (fun c16 => ?_) (fun c16 => ?_)
                    · refine x_bipush (20) dX9_penaltyOf_90 rfl ?_
                      refine x_goto (tgt := 96) dX9_penaltyOf_92 (by decide) ?_
                      refine x_iadd dX9_penaltyOf_96 ?_
                      refine x_istore_n (lv' := [(3, iv (u + 20)), (0, rv g 468), (1, iv t), (2, iv b), (4, iv p), (5, iv z3), (6, iv r)]) dX9_penaltyOf_97 rfl (Nat.le_of_ble_eq_true rfl) rfl ?_
                      refine x_iinc (z := r) (lv' := [(6, iv (r + 1)), (3, iv (u + 20)), (0, rv g 468), (1, iv t), (2, iv b), (4, iv p), (5, iv z3)]) 6 dX9_penaltyOf_98 rfl (Nat.le_of_ble_eq_true rfl) rfl ?_
                      refine x_goto (tgt := 46) dX9_penaltyOf_101 (by decide) ?_
                      refine x_sub [2, 3, 4, 1, 5, 6, 0] rfl ?_
                      exact ih_46 _ _ (by omega) (by omega) (by rw [cnt_t (by omega) (⟨by omega, by omega, by unfold Vis; (clear ih_5 ih_46; grind)⟩)]; omega) (by omega) (by omega)
                    · refine x_aload_n 0 dX9_penaltyOf_81 rfl rfl ?_
                      refine x_iload 6 dX9_penaltyOf_82 rfl ?_
                      refine x_callVIP (as := [iv r]) (rest := [iv u]) dX9_penaltyOf_84 vl9_209 k_468 (c_X9_isPending g M r I (by omega) (by omega)) rfl rfl (Nat.le_of_ble_eq_true rfl) ⟨Nat.le_of_ble_eq_true rfl, Nat.le_of_ble_eq_true rfl⟩ (fun z17 h18 => ?_)
                      refine x_if_ne (tgt := 95) dX9_penaltyOf_87 (by decide) ⟨by omega, by omega⟩ (fun c20 => ?_) (fun c20 => ?_)
                      · refine x_iconst (0) dX9_penaltyOf_95 rfl ?_
                        refine x_iadd dX9_penaltyOf_96 ?_
                        refine x_istore_n (lv' := [(3, iv (u + 0)), (0, rv g 468), (1, iv t), (2, iv b), (4, iv p), (5, iv z3), (6, iv r)]) dX9_penaltyOf_97 rfl (Nat.le_of_ble_eq_true rfl) rfl ?_
                        refine x_iinc (z := r) (lv' := [(6, iv (r + 1)), (3, iv (u + 0)), (0, rv g 468), (1, iv t), (2, iv b), (4, iv p), (5, iv z3)]) 6 dX9_penaltyOf_98 rfl (Nat.le_of_ble_eq_true rfl) rfl ?_
                        refine x_goto (tgt := 46) dX9_penaltyOf_101 (by decide) ?_
                        refine x_sub [2, 3, 4, 1, 5, 6, 0] rfl ?_
                        exact ih_46 _ _ (by omega) (by omega) (by rw [cnt_f (by omega) (by rintro ⟨u1, u2, u3⟩; first | omega | (revert u3; unfold Vis; (clear ih_5 ih_46; grind)))]; omega) (by omega) (by omega)
                      · refine x_bipush (20) dX9_penaltyOf_90 rfl ?_
                        refine x_goto (tgt := 96) dX9_penaltyOf_92 (by decide) ?_
                        refine x_iadd dX9_penaltyOf_96 ?_
                        refine x_istore_n (lv' := [(3, iv (u + 20)), (0, rv g 468), (1, iv t), (2, iv b), (4, iv p), (5, iv z3), (6, iv r)]) dX9_penaltyOf_97 rfl (Nat.le_of_ble_eq_true rfl) rfl ?_
                        refine x_iinc (z := r) (lv' := [(6, iv (r + 1)), (3, iv (u + 20)), (0, rv g 468), (1, iv t), (2, iv b), (4, iv p), (5, iv z3)]) 6 dX9_penaltyOf_98 rfl (Nat.le_of_ble_eq_true rfl) rfl ?_
                        refine x_goto (tgt := 46) dX9_penaltyOf_101 (by decide) ?_
                        refine x_sub [2, 3, 4, 1, 5, 6, 0] rfl ?_
                        exact ih_46 _ _ (by omega) (by omega) (by rw [cnt_t (by omega) (⟨by omega, by omega, by unfold Vis; (clear ih_5 ih_46; grind)⟩)]; omega) (by omega) (by omega)
          refine x_sub [3, 4, 5, 1, 6, 2, 0] rfl ?_
          exact h_46 _ _ _ (by omega) (by omega) (by rw [cnt_0]; omega) (by omega) (Nat.lt_succ_self _)
        · refine x_goto (tgt := 104) dX9_penaltyOf_30 (by decide) ?_
          refine x_iinc (z := p) (lv' := [(4, iv (p + 1)), (5, iv z3), (0, rv g 468), (1, iv t), (2, iv b), (3, iv s)]) 5 dX9_penaltyOf_104 rfl (Nat.le_of_ble_eq_true rfl) rfl ?_
          refine x_goto (tgt := 5) dX9_penaltyOf_107 (by decide) ?_
          refine x_sub [2, 3, 4, 5, 0] rfl ?_
          exact ih_5 _ _ (by omega) (by omega) (by rw [sm_s (by omega), ← j2]; (clear ih_5; grind)) (by omega) (by omega)
  refine x_iconst (0) dX9_penaltyOf_0 rfl ?_
  refine x_istore_n (lv' := [(3, iv 0), (0, rv g 468), (1, iv t), (2, iv b)]) dX9_penaltyOf_1 rfl (Nat.le_of_ble_eq_true rfl) rfl ?_
  refine x_iconst (0) dX9_penaltyOf_2 rfl ?_
  refine x_istore (lv' := [(4, iv 0), (3, iv 0), (0, rv g 468), (1, iv t), (2, iv b)]) dX9_penaltyOf_3 (Nat.le_of_ble_eq_true rfl) rfl ?_
  refine x_sub [2, 3, 4, 1, 0] rfl ?_
  exact h_5 _ _ _ (by omega) (by omega) (by exact (sm_0 _).symm) (by omega) (Nat.lt_succ_self _)

set_option maxHeartbeats 600000 in
set_option maxRecDepth 100000 in
theorem c_X9_latestOf (g : GG) (M : Mem) (t b : Int) (I : RB M) (t0 : 0 ≤ t) (t1 : t ≤ 100) (b0 : b = 0 ∨ b = 1) : Ct g yX9_latestOf cX9_latestOf 6 (some .int) 3 [rv g 468, iv t, iv b] M (pIP (fun z => z = latR M b t (M 468 18) ∧ 0 ≤ z ∧ z ≤ 999) M) := by
  refine ct_of (by decide +kernel) (Nat.le_of_ble_eq_true rfl) ?_
  show Ok g mX9_latestOf (rmd 3) (FQ g (pIP (fun z => z = latR M b t (M 468 18) ∧ 0 ≤ z ∧ z ≤ 999) M)) 0 [(0, rv g 468), (1, iv t), (2, iv b)] [] M
  have i0 := I.rng
  have h_5 : ∀ (n_5 : Nat) (s : Int) (p : Int), (0 ≤ p) → (p ≤ M 468 9) → (s = latN M b t (M 468 18) p.toNat) → (0 ≤ s ∧ s ≤ 999) → (M 468 9 - p).toNat < n_5 → Ok g mX9_latestOf (rmd 3) (FQ g (pIP (fun z => z = latR M b t (M 468 18) ∧ 0 ≤ z ∧ z ≤ 999) M)) 5 [(0, rv g 468), (1, iv t), (2, iv b), (3, iv s), (4, iv p)] [] M := by
    intro n_5
    induction n_5 with
    | zero => intro s p j0 j1 j2 j3 hn_5; exact absurd hn_5 (Nat.not_lt_zero _)
    | succ n_5 ih_5 =>
      intro s p j0 j1 j2 j3 hn_5
      refine x_iload 4 dX9_latestOf_5 rfl ?_
      refine x_aload_n 0 dX9_latestOf_7 rfl rfl ?_
      refine x_geti (k := 9) (kI := 9) dX9_latestOf_8 fl9_124 k_468 rfl rfl (fun ⟨a1, a1'⟩ => ?_)
      refine x_icmp_ge (tgt := 55) dX9_latestOf_11 (by decide) ⟨by omega, by omega⟩ ⟨by omega, by omega⟩ (fun c2 => ?_) (fun c2 => ?_)
      · refine x_iload_n 3 dX9_latestOf_55 rfl rfl ?_
        refine x_iret dX9_latestOf_56 rfl rfl ?_
        exact ⟨_, rfl, rfl, by rw [j2, show p = M 468 9 by omega]; rfl, by omega, by omega⟩
      · refine x_aload_n 0 dX9_latestOf_14 rfl rfl ?_
        refine x_iload_n 1 dX9_latestOf_15 rfl rfl ?_
        refine x_iload 4 dX9_latestOf_16 rfl ?_
        refine x_iload_n 2 dX9_latestOf_18 rfl rfl ?_
        refine x_callVIP (as := [iv t, iv p, iv b]) (rest := []) dX9_latestOf_19 vl9_222 k_468 (c_X9_firstOf g M t p b I (by omega) (by omega) (by omega) (by omega) b0) rfl rfl (Nat.le_of_ble_eq_true rfl) ⟨Nat.le_of_ble_eq_true rfl, Nat.le_of_ble_eq_true rfl⟩ (fun z3 h4 => ?_)
        have h4r := lst_range (fun r => M 481 r = t ∧ M 482 r = p ∧ Vis M b r ∧ Acc M r) (n := M 468 18) (by omega)
        change fstR M b t p (M 468 18) = -1 ∨ (0 ≤ fstR M b t p (M 468 18) ∧ fstR M b t p (M 468 18) < _) at h4r
        rw [← h4] at h4r
        refine x_istore (lv' := [(5, iv z3), (0, rv g 468), (1, iv t), (2, iv b), (3, iv s), (4, iv p)]) dX9_latestOf_22 (Nat.le_of_ble_eq_true rfl) rfl ?_
        refine x_iload 0 dX9_latestOf_24 rfl ?_
        refine x_iconst (-1) dX9_latestOf_26 rfl ?_
        refine x_icmp_eq (tgt := 49) dX9_latestOf_27 (by decide) ⟨by omega, by omega⟩ ⟨by decide, by decide⟩ (fun c6 => ?_) (fun c6 => ?_)
        · refine x_iinc (z := p) (lv' := [(4, iv (p + 1)), (5, iv z3), (0, rv g 468), (1, iv t), (2, iv b), (3, iv s)]) 5 dX9_latestOf_49 rfl (Nat.le_of_ble_eq_true rfl) rfl ?_
          refine x_goto (tgt := 5) dX9_latestOf_52 (by decide) ?_
          refine x_sub [2, 3, 4, 5, 0] rfl ?_
          exact ih_5 _ _ (by omega) (by omega) (by rw [show (p + 1).toNat = p.toNat + 1 by omega]; simp only [latN, Int.toNat_of_nonneg j0]; (clear ih_5; grind)) (by omega) (by omega)
        · refine x_aload_n 1 dX9_latestOf_30 rfl rfl ?_
          have i2 := I.run z3 (by omega) (by omega)
          refine x_getr (k := 21) (d := 15) dX9_latestOf_31 fl9_53 k_468 rfl (fun k7 => ?_)
          have k7 : isK 20 40 483 := k7
          show Ok g mX9_latestOf (rmd 3) (FQ g (pIP (fun z => z = latR M b t (M 468 18) ∧ 0 ≤ z ∧ z ≤ 999) M)) 34 [(5, iv z3), (0, rv g 468), (1, iv t), (2, iv b), (3, iv s), (4, iv p)] [rv g 483] M
          refine x_iload 0 dX9_latestOf_34 rfl ?_
          refine x_iald dX9_latestOf_36 k7 (by omega) (by omega) (by decide) (fun ⟨a8, a8'⟩ => ?_)
          refine x_iload_n 4 dX9_latestOf_37 rfl rfl ?_
          refine x_icmp_le (tgt := 49) dX9_latestOf_38 (by decide) ⟨by omega, by omega⟩ ⟨by omega, by omega⟩ (fun c9 => ?_) (fun c9 => ?_)
          · refine x_iinc (z := p) (lv' := [(4, iv (p + 1)), (5, iv z3), (0, rv g 468), (1, iv t), (2, iv b), (3, iv s)]) 5 dX9_latestOf_49 rfl (Nat.le_of_ble_eq_true rfl) rfl ?_
            refine x_goto (tgt := 5) dX9_latestOf_52 (by decide) ?_
            refine x_sub [2, 3, 4, 5, 0] rfl ?_
            exact ih_5 _ _ (by omega) (by omega) (by rw [show (p + 1).toNat = p.toNat + 1 by omega]; simp only [latN, Int.toNat_of_nonneg j0]; (clear ih_5; grind)) (by omega) (by omega)
          · refine x_aload_n 1 dX9_latestOf_41 rfl rfl ?_
            refine x_getr (k := 21) (d := 15) dX9_latestOf_42 fl9_53 k_468 rfl (fun k10 => ?_)
            have k10 : isK 20 40 483 := k10
            show Ok g mX9_latestOf (rmd 3) (FQ g (pIP (fun z => z = latR M b t (M 468 18) ∧ 0 ≤ z ∧ z ≤ 999) M)) 45 [(5, iv z3), (0, rv g 468), (1, iv t), (2, iv b), (3, iv s), (4, iv p)] [rv g 483] M
            refine x_iload 0 dX9_latestOf_45 rfl ?_
            refine x_iald dX9_latestOf_47 k10 (by omega) (by omega) (by decide) (fun ⟨a11, a11'⟩ => ?_)
            refine x_istore_n (lv' := [(3, iv (M 483 z3)), (5, iv z3), (0, rv g 468), (1, iv t), (2, iv b), (4, iv p)]) dX9_latestOf_48 rfl (Nat.le_of_ble_eq_true rfl) rfl ?_
            refine x_iinc (z := p) (lv' := [(4, iv (p + 1)), (3, iv (M 483 z3)), (5, iv z3), (0, rv g 468), (1, iv t), (2, iv b)]) 5 dX9_latestOf_49 rfl (Nat.le_of_ble_eq_true rfl) rfl ?_
            refine x_goto (tgt := 5) dX9_latestOf_52 (by decide) ?_
            refine x_sub [3, 4, 5, 1, 0] rfl ?_
            exact ih_5 _ _ (by omega) (by omega) (by rw [show (p + 1).toNat = p.toNat + 1 by omega]; simp only [latN, Int.toNat_of_nonneg j0]; (clear ih_5; grind)) (by omega) (by omega)
  refine x_iconst (0) dX9_latestOf_0 rfl ?_
  refine x_istore_n (lv' := [(3, iv 0), (0, rv g 468), (1, iv t), (2, iv b)]) dX9_latestOf_1 rfl (Nat.le_of_ble_eq_true rfl) rfl ?_
  refine x_iconst (0) dX9_latestOf_2 rfl ?_
  refine x_istore (lv' := [(4, iv 0), (3, iv 0), (0, rv g 468), (1, iv t), (2, iv b)]) dX9_latestOf_3 (Nat.le_of_ble_eq_true rfl) rfl ?_
  refine x_sub [2, 3, 4, 1, 0] rfl ?_
  exact h_5 _ _ _ (by omega) (by omega) (by rfl) (by omega) (Nat.lt_succ_self _)
