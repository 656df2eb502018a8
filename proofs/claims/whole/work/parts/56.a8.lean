set_option maxHeartbeats 600000 in
set_option maxRecDepth 100000 in
theorem c_X1_putInOrder (g : GG) (M : Mem) (o T : Int) (ko : isK 1 7 o) (hT : M o 6 = T) (T0 : 0 ≤ T ∧ T ≤ 8) : Ct g yX1_putInOrder cX1_putInOrder 3 none 1 [rv g o] M (pV (fun M' => (∀ a k, a ≠ o + 6 → M' a k = M a k) ∧ ORD M' o T)) := by
  refine ct_of (by decide +kernel) (Nat.le_of_ble_eq_true rfl) ?_
  show Ok g mX1_putInOrder (rmd 1) (FQ g (pV (fun M' => (∀ a k, a ≠ o + 6 → M' a k = M a k) ∧ ORD M' o T))) 0 [(0, rv g o)] [] M
  have h_2 : ∀ (n_2 : Nat) (M1 : Mem) (k : Int), (0 ≤ k ∧ k ≤ T) → (∀ a q, a ≠ o + 6 → M1 a q = M a q) → (ORD M1 o k) → (T - k).toNat < n_2 → Ok g mX1_putInOrder (rmd 1) (FQ g (pV (fun M' => (∀ a k, a ≠ o + 6 → M' a k = M a k) ∧ ORD M' o T))) 2 [(0, rv g o), (1, iv k)] [] M1 := by
    intro n_2
    induction n_2 with
    | zero => intro M1 k j0 j1 j2 hn_2; exact absurd hn_2 (Nat.not_lt_zero _)
    | succ n_2 ih_2 =>
      intro M1 k j0 j1 j2 hn_2
      refine x_iload_n 1 dX1_putInOrder_2 rfl rfl ?_
      refine x_aload_n 0 dX1_putInOrder_3 rfl rfl ?_
      refine x_geti (k := 6) (kI := 6) dX1_putInOrder_4 fl1_30 ko rfl rfl (fun ⟨a1, a1'⟩ => ?_)
      have e2 : M1 o 6 = T := ((j1 _ _ (by omega)).trans hT)
      simp only [e2] at a1 a1' ⊢
      refine x_icmp_ge (tgt := 65) dX1_putInOrder_7 (by decide) ⟨by omega, by omega⟩ ⟨by omega, by omega⟩ (fun c3 => ?_) (fun c3 => ?_)
      · refine x_vret dX1_putInOrder_65 rfl ?_
        exact ⟨rfl, j1, by rw [show T = k by omega]; exact j2⟩
      · refine x_iload_n 1 dX1_putInOrder_10 rfl rfl ?_
        refine x_istore_n (lv' := [(2, iv k), (0, rv g o), (1, iv k)]) dX1_putInOrder_11 rfl (Nat.le_of_ble_eq_true rfl) rfl ?_
        have h_12 : ∀ (n_12 : Nat) (M2 : Mem) (i : Int), (0 ≤ i ∧ i ≤ k) → (∀ a q, a ≠ o + 6 → M2 a q = M a q) → (∀ j, 0 ≤ j → j < i → M2 (o + 6) j = M1 (o + 6) j) → (∀ j, i < j → j ≤ k → M2 (o + 6) j = M1 (o + 6) (j - 1)) → (∀ j, i ≤ j → j < k → AHa M1 o k (M1 (o + 6) j)) → i.toNat < n_12 → Ok g mX1_putInOrder (rmd 1) (FQ g (pV (fun M' => (∀ a k, a ≠ o + 6 → M' a k = M a k) ∧ ORD M' o T))) 12 [(0, rv g o), (1, iv k), (2, iv i)] [] M2 := by
          intro n_12
          induction n_12 with
          | zero => intro M2 i l0 l1 l2 l3 l4 hn_12; exact absurd hn_12 (Nat.not_lt_zero _)
          | succ n_12 ih_12 =>
            intro M2 i l0 l1 l2 l3 l4 hn_12
            refine x_iload_n 2 dX1_putInOrder_12 rfl rfl ?_
            refine x_if_le (tgt := 52) dX1_putInOrder_13 (by decide) ⟨by omega, by omega⟩ (fun c4 => ?_) (fun c4 => ?_)
            · have l9 : 0 < i → ¬ AHa M1 o k (M1 (o + 6) (i - 1)) := fun h => by omega
              refine x_aload_n 0 dX1_putInOrder_52 rfl rfl ?_
              refine x_getr (k := 5) (d := 6) dX1_putInOrder_53 fl1_27 ko rfl (fun k5 => ?_)
              refine x_iload_n 2 dX1_putInOrder_56 rfl rfl ?_
              refine x_iload_n 1 dX1_putInOrder_57 rfl rfl ?_
              refine x_iast dX1_putInOrder_58 k5 (by omega) (by omega) (by decide) ⟨by omega, by omega⟩ ?_
              refine x_iinc (z := k) (lv' := [(1, iv (k + 1)), (0, rv g o), (2, iv i)]) 1 dX1_putInOrder_59 rfl (Nat.le_of_ble_eq_true rfl) rfl ?_
              refine x_goto (tgt := 2) dX1_putInOrder_62 (by decide) ?_
              refine x_sub [1, 0] rfl ?_
              exact ih_2 _ _ (by omega) (by intro a q h; rw [up_o h]; exact l1 a q h) (by refine ORD.ins j2 (i := i) (by omega) (by omega) (fun q j h => ?_) (fun j x0 x1 => ?_) (up_s _ _ _ _) (fun j x0 x1 => ?_) l4 ?_; rw [up_o (by omega), l1 _ _ (by omega), j1 _ _ (by omega)]; rw [up_k (by omega)]; exact l2 j x0 x1; rw [up_k (by omega)]; exact l3 j x0 x1; exact l9) (by omega)
            · have l7 := j2.1 (i - 1) (by omega) (by omega)
              refine x_aload_n 0 dX1_putInOrder_16 rfl rfl ?_
              refine x_iload_n 1 dX1_putInOrder_17 rfl rfl ?_
              refine x_aload_n 0 dX1_putInOrder_18 rfl rfl ?_
              refine x_getr (k := 5) (d := 6) dX1_putInOrder_19 fl1_27 ko rfl (fun k6 => ?_)
              refine x_iload_n 2 dX1_putInOrder_22 rfl rfl ?_
              refine x_iconst (1) dX1_putInOrder_23 rfl ?_
              refine x_isub dX1_putInOrder_24 ?_
              refine x_iald dX1_putInOrder_25 k6 (by omega) (by omega) (by decide) (fun ⟨a7, a7'⟩ => ?_)
              have e8 : M2 (o + 6) (i - 1) = M1 (o + 6) (i - 1) := (l2 _ (by omega) (by omega))
              simp only [e8] at a7 a7' ⊢
              refine x_callVIP (as := [iv k, iv (M1 (o + 6) (i - 1))]) (rest := []) dX1_putInOrder_26 vl1_76 ko (c_X1_isAhead g M2 o k (M1 (o + 6) (i - 1)) ko (by omega) (by omega)) rfl rfl (Nat.le_of_ble_eq_true rfl) ⟨Nat.le_of_ble_eq_true rfl, Nat.le_of_ble_eq_true rfl⟩ (fun z9 h10 => ?_)
              have hA := h10
              have l6 : AHa M2 o k (M1 (o + 6) (i - 1)) ↔ AHa M1 o k (M1 (o + 6) (i - 1)) := AHa.cong (fun q j h => by rw [l1 _ _ (by omega), j1 _ _ (by omega)])
              refine x_if_eq (tgt := 52) dX1_putInOrder_29 (by decide) ⟨by omega, by omega⟩ (fun c12 => ?_) (fun c12 => ?_)
              · have l9 : 0 < i → ¬ AHa M1 o k (M1 (o + 6) (i - 1)) := fun _ e => by
                  rcases hA with ⟨w, _⟩ | ⟨_, w⟩
                  · omega
                  · exact w (l6.mpr e)
                refine x_aload_n 0 dX1_putInOrder_52 rfl rfl ?_
                refine x_getr (k := 5) (d := 6) dX1_putInOrder_53 fl1_27 ko rfl (fun k13 => ?_)
                refine x_iload_n 2 dX1_putInOrder_56 rfl rfl ?_
                refine x_iload_n 1 dX1_putInOrder_57 rfl rfl ?_
                refine x_iast dX1_putInOrder_58 k13 (by omega) (by omega) (by decide) ⟨by omega, by omega⟩ ?_
                refine x_iinc (z := k) (lv' := [(1, iv (k + 1)), (0, rv g o), (2, iv i)]) 1 dX1_putInOrder_59 rfl (Nat.le_of_ble_eq_true rfl) rfl ?_
                refine x_goto (tgt := 2) dX1_putInOrder_62 (by decide) ?_
                refine x_sub [1, 0] rfl ?_
                exact ih_2 _ _ (by omega) (by intro a q h; rw [up_o h]; exact l1 a q h) (by refine ORD.ins j2 (i := i) (by omega) (by omega) (fun q j h => ?_) (fun j x0 x1 => ?_) (up_s _ _ _ _) (fun j x0 x1 => ?_) l4 ?_; rw [up_o (by omega), l1 _ _ (by omega), j1 _ _ (by omega)]; rw [up_k (by omega)]; exact l2 j x0 x1; rw [up_k (by omega)]; exact l3 j x0 x1; exact l9) (by omega)
              · have l8 : AHa M1 o k (M1 (o + 6) (i - 1)) := by
                  rcases hA with ⟨_, w⟩ | ⟨w, _⟩
                  · exact l6.mp w
                  · omega
                refine x_aload_n 0 dX1_putInOrder_32 rfl rfl ?_
                refine x_getr (k := 5) (d := 6) dX1_putInOrder_33 fl1_27 ko rfl (fun k14 => ?_)
                refine x_iload_n 2 dX1_putInOrder_36 rfl rfl ?_
                refine x_aload_n 0 dX1_putInOrder_37 rfl rfl ?_
                refine x_getr (k := 5) (d := 6) dX1_putInOrder_38 fl1_27 ko rfl (fun k15 => ?_)
                refine x_iload_n 2 dX1_putInOrder_41 rfl rfl ?_
                refine x_iconst (1) dX1_putInOrder_42 rfl ?_
                refine x_isub dX1_putInOrder_43 ?_
                refine x_iald dX1_putInOrder_44 k15 (by omega) (by omega) (by decide) (fun ⟨a16, a16'⟩ => ?_)
                have e17 : M2 (o + 6) (i - 1) = M1 (o + 6) (i - 1) := (l2 _ (by omega) (by omega))
                simp only [e17] at a16 a16' ⊢
                refine x_iast dX1_putInOrder_45 k14 (by omega) (by omega) (by decide) ⟨by omega, by omega⟩ ?_
                refine x_iinc (z := i) (lv' := [(2, iv (i + (-1))), (0, rv g o), (1, iv k)]) 2 dX1_putInOrder_46 rfl (Nat.le_of_ble_eq_true rfl) rfl ?_
                refine x_goto (tgt := 12) dX1_putInOrder_49 (by decide) ?_
                refine x_sub [1, 2, 0] rfl ?_
                exact ih_12 _ _ (by omega) (by intro a q h; rw [up_o h]; exact l1 a q h) (by intro j x0 x1; rw [up_k (by omega)]; exact l2 j x0 (by omega)) (by intro j x0 x1; rcases Int.lt_or_eq_of_le (show i ≤ j by omega) with e | e; rw [up_k (by omega)]; exact l3 j e x1; rw [← e, up_s]) (by intro j x0 x1; rcases Int.lt_or_eq_of_le (show i - 1 ≤ j by omega) with e | e; exact l4 j (by omega) x1; rw [← e]; exact l8) (by omega)
        refine x_sub [1, 2, 0] rfl ?_
        exact h_12 _ _ _ (by omega) (by exact j1) (by intro j _ _; rfl) (by intro j _ _; omega) (by intro j _ _; omega) (Nat.lt_succ_self _)
  refine x_iconst (0) dX1_putInOrder_0 rfl ?_
  refine x_istore_n (lv' := [(1, iv 0), (0, rv g o)]) dX1_putInOrder_1 rfl (Nat.le_of_ble_eq_true rfl) rfl ?_
  refine x_sub [1, 0] rfl ?_
  exact h_2 _ _ _ (by omega) (by intro a q _; rfl) (by exact ⟨fun i _ _ => by omega, fun i j _ _ _ => by omega, fun t _ _ => by omega⟩) (Nat.lt_succ_self _)

set_option maxHeartbeats 600000 in
set_option maxRecDepth 100000 in
theorem c_X1_rankOf (g : GG) (M : Mem) (o t T : Int) (ko : isK 1 7 o) (hT : M o 6 = T) (T0 : 0 < T ∧ T ≤ 8) (he : ∃ i, 0 ≤ i ∧ i < T ∧ M (o + 6) i = t) (ht : rg t) : Ct g yX1_rankOf cX1_rankOf 3 (some .int) 0 [rv g o, iv t] M (pIP (fun z => ∃ i, z = i + 1 ∧ 0 ≤ i ∧ i < T ∧ M (o + 6) i = t) M) := by
  refine ct_of (by decide +kernel) (Nat.le_of_ble_eq_true rfl) ?_
  show Ok g mX1_rankOf (rmd 0) (FQ g (pIP (fun z => ∃ i, z = i + 1 ∧ 0 ≤ i ∧ i < T ∧ M (o + 6) i = t) M)) 0 [(0, rv g o), (1, iv t)] [] M
  have ht1 := ht.1
  have ht2 := ht.2
  have h_2 : ∀ (n_2 : Nat) (i : Int), (0 ≤ i ∧ i < T) → (∀ q, 0 ≤ q → q < i → M (o + 6) q ≠ t) → (T - i).toNat < n_2 → Ok g mX1_rankOf (rmd 0) (FQ g (pIP (fun z => ∃ i, z = i + 1 ∧ 0 ≤ i ∧ i < T ∧ M (o + 6) i = t) M)) 2 [(0, rv g o), (1, iv t), (2, iv i)] [] M := by
    intro n_2
    induction n_2 with
    | zero => intro i j0 j1 hn_2; exact absurd hn_2 (Nat.not_lt_zero _)
    | succ n_2 ih_2 =>
      intro i j0 j1 hn_2
      refine x_iload_n 2 dX1_rankOf_2 rfl rfl ?_
      refine x_aload_n 0 dX1_rankOf_3 rfl rfl ?_
      refine x_geti (k := 6) (kI := 6) dX1_rankOf_4 fl1_30 ko rfl rfl (fun ⟨a1, a1'⟩ => ?_)
      have e2 : M o 6 = T := hT
      simp only [e2] at a1 a1' ⊢
      refine x_iconst (1) dX1_rankOf_7 rfl ?_
      refine x_isub dX1_rankOf_8 ?_
      refine x_icmp_ge (tgt := 28) dX1_rankOf_9 (by decide) ⟨by omega, by omega⟩ ⟨by omega, by omega⟩ (fun c3 => ?_) (fun c3 => ?_)
      · refine x_iload_n 2 dX1_rankOf_28 rfl rfl ?_
        refine x_iconst (1) dX1_rankOf_29 rfl ?_
        refine x_iadd dX1_rankOf_30 ?_
        refine x_iret dX1_rankOf_31 rfl rfl ?_
        refine ⟨_, rfl, rfl, i, rfl, by omega, by omega, ?_⟩
        refine Classical.byContradiction fun e => ?_
        obtain ⟨q, q0, q1, q2⟩ := he
        rcases Int.lt_or_le q i with w2 | w2
        · exact j1 q q0 w2 q2
        · have e3 : q = i := by omega
          rw [e3] at q2
          omega
      · refine x_aload_n 0 dX1_rankOf_12 rfl rfl ?_
        refine x_getr (k := 5) (d := 6) dX1_rankOf_13 fl1_27 ko rfl (fun k4 => ?_)
        refine x_iload_n 2 dX1_rankOf_16 rfl rfl ?_
        refine x_iald dX1_rankOf_17 k4 (by omega) (by omega) (by decide) (fun ⟨a5, a5'⟩ => ?_)
        refine x_iload_n 1 dX1_rankOf_18 rfl rfl ?_
        refine x_icmp_eq (tgt := 28) dX1_rankOf_19 (by decide) ⟨by omega, by omega⟩ ⟨by omega, by omega⟩ (fun c6 => ?_) (fun c6 => ?_)
        · refine x_iload_n 2 dX1_rankOf_28 rfl rfl ?_
          refine x_iconst (1) dX1_rankOf_29 rfl ?_
          refine x_iadd dX1_rankOf_30 ?_
          refine x_iret dX1_rankOf_31 rfl rfl ?_
          refine ⟨_, rfl, rfl, i, rfl, by omega, by omega, ?_⟩
          refine Classical.byContradiction fun e => ?_
          obtain ⟨q, q0, q1, q2⟩ := he
          rcases Int.lt_or_le q i with w2 | w2
          · exact j1 q q0 w2 q2
          · have e3 : q = i := by omega
            rw [e3] at q2
            omega
        · refine x_iinc (z := i) (lv' := [(2, iv (i + 1)), (0, rv g o), (1, iv t)]) 2 dX1_rankOf_22 rfl (Nat.le_of_ble_eq_true rfl) rfl ?_
          refine x_goto (tgt := 2) dX1_rankOf_25 (by decide) ?_
          refine x_sub [1, 2, 0] rfl ?_
          exact ih_2 _ (by omega) (by exact ext_lt j1 (by omega)) (by omega)
  refine x_iconst (0) dX1_rankOf_0 rfl ?_
  refine x_istore_n (lv' := [(2, iv 0), (0, rv g o), (1, iv t)]) dX1_rankOf_1 rfl (Nat.le_of_ble_eq_true rfl) rfl ?_
  refine x_sub [1, 2, 0] rfl ?_
  exact h_2 _ _ (by omega) (by intro q _ _; omega) (Nat.lt_succ_self _)

set_option maxHeartbeats 600000 in
set_option maxRecDepth 100000 in
theorem c_X1_isLike (g : GG) (M : Mem) (o q : Int) (ko : isK 1 7 o) (kq : isK 1 7 q) (hT : 0 ≤ M o 6 ∧ M o 6 ≤ 8) : Ct g yX1_isLike cX1_isLike 3 (some .boolean) 0 [rv g o, rv g q] M (pIP (fun z => (z = 1 ∧ LIK M o q) ∨ (z = 0 ∧ ¬ LIK M o q)) M) := by
  refine ct_of (by decide +kernel) (Nat.le_of_ble_eq_true rfl) ?_
  show Ok g mX1_isLike (rmd 0) (FQ g (pIP (fun z => (z = 1 ∧ LIK M o q) ∨ (z = 0 ∧ ¬ LIK M o q)) M)) 0 [(0, rv g o), (1, rv g q)] [] M
  have h_15 : ∀ (n_15 : Nat) (i : Int), (0 ≤ i ∧ i ≤ M o 6 ∧ M o 6 = M q 6) → (∀ j, 0 ≤ j → j < i → M (o + 6) j = M (q + 6) j ∧ M (o + 3) j = M (q + 3) j ∧ M (o + 4) j = M (q + 4) j) → (M o 6 - i).toNat < n_15 → Ok g mX1_isLike (rmd 0) (FQ g (pIP (fun z => (z = 1 ∧ LIK M o q) ∨ (z = 0 ∧ ¬ LIK M o q)) M)) 15 [(0, rv g o), (1, rv g q), (2, iv i)] [] M := by
    intro n_15
    induction n_15 with
    | zero => intro i j0 j1 hn_15; exact absurd hn_15 (Nat.not_lt_zero _)
    | succ n_15 ih_15 =>
      intro i j0 j1 hn_15
      refine x_iload_n 2 dX1_isLike_15 rfl rfl ?_
      refine x_aload_n 0 dX1_isLike_16 rfl rfl ?_
      refine x_geti (k := 6) (kI := 6) dX1_isLike_17 fl1_30 ko rfl rfl (fun ⟨a1, a1'⟩ => ?_)
      refine x_icmp_ge (tgt := 76) dX1_isLike_20 (by decide) ⟨by omega, by omega⟩ ⟨by omega, by omega⟩ (fun c2 => ?_) (fun c2 => ?_)
      · refine x_iconst (1) dX1_isLike_76 rfl ?_
        refine x_iret dX1_isLike_77 rfl (iZ_bool (by omega)) ?_
        exact ⟨_, rfl, rfl, Or.inl ⟨rfl, by omega, fun j x0 x1 => j1 j x0 (by omega)⟩⟩
      · refine x_aload_n 0 dX1_isLike_23 rfl rfl ?_
        refine x_getr (k := 5) (d := 6) dX1_isLike_24 fl1_27 ko rfl (fun k3 => ?_)
        refine x_iload_n 2 dX1_isLike_27 rfl rfl ?_
        refine x_iald dX1_isLike_28 k3 (by omega) (by omega) (by decide) (fun ⟨a4, a4'⟩ => ?_)
        refine x_aload_n 1 dX1_isLike_29 rfl rfl ?_
        refine x_getr (k := 5) (d := 6) dX1_isLike_30 fl1_27 kq rfl (fun k5 => ?_)
        refine x_iload_n 2 dX1_isLike_33 rfl rfl ?_
        refine x_iald dX1_isLike_34 k5 (by omega) (by omega) (by decide) (fun ⟨a6, a6'⟩ => ?_)
        refine x_icmp_ne (tgt := 68) dX1_isLike_35 (by decide) ⟨by omega, by omega⟩ ⟨by omega, by omega⟩ (fun c7 => ?_) (fun c7 => ?_)
        · refine x_iconst (0) dX1_isLike_68 rfl ?_
          refine x_iret dX1_isLike_69 rfl (iZ_bool (by omega)) ?_
          exact ⟨_, rfl, rfl, Or.inr ⟨rfl, fun e => by have := e.2 i (by omega) (by omega); omega⟩⟩
        · refine x_aload_n 0 dX1_isLike_38 rfl rfl ?_
          refine x_getr (k := 2) (d := 3) dX1_isLike_39 fl1_18 ko rfl (fun k8 => ?_)
          refine x_iload_n 2 dX1_isLike_42 rfl rfl ?_
          refine x_iald dX1_isLike_43 k8 (by omega) (by omega) (by decide) (fun ⟨a9, a9'⟩ => ?_)
          refine x_aload_n 1 dX1_isLike_44 rfl rfl ?_
          refine x_getr (k := 2) (d := 3) dX1_isLike_45 fl1_18 kq rfl (fun k10 => ?_)
          refine x_iload_n 2 dX1_isLike_48 rfl rfl ?_
          refine x_iald dX1_isLike_49 k10 (by omega) (by omega) (by decide) (fun ⟨a11, a11'⟩ => ?_)
          refine x_icmp_ne (tgt := 68) dX1_isLike_50 (by decide) ⟨by omega, by omega⟩ ⟨by omega, by omega⟩ (fun c12 => ?_) (fun c12 => ?_)
          · refine x_iconst (0) dX1_isLike_68 rfl ?_
            refine x_iret dX1_isLike_69 rfl (iZ_bool (by omega)) ?_
            exact ⟨_, rfl, rfl, Or.inr ⟨rfl, fun e => by have := e.2 i (by omega) (by omega); omega⟩⟩
          · refine x_aload_n 0 dX1_isLike_53 rfl rfl ?_
            refine x_getr (k := 3) (d := 4) dX1_isLike_54 fl1_21 ko rfl (fun k13 => ?_)
            refine x_iload_n 2 dX1_isLike_57 rfl rfl ?_
            refine x_iald dX1_isLike_58 k13 (by omega) (by omega) (by decide) (fun ⟨a14, a14'⟩ => ?_)
            refine x_aload_n 1 dX1_isLike_59 rfl rfl ?_
            refine x_getr (k := 3) (d := 4) dX1_isLike_60 fl1_21 kq rfl (fun k15 => ?_)
            refine x_iload_n 2 dX1_isLike_63 rfl rfl ?_
            refine x_iald dX1_isLike_64 k15 (by omega) (by omega) (by decide) (fun ⟨a16, a16'⟩ => ?_)
            refine x_icmp_eq (tgt := 70) dX1_isLike_65 (by decide) ⟨by omega, by omega⟩ ⟨by omega, by omega⟩ (fun c17 => ?_) (fun c17 => ?_)
            · refine x_iinc (z := i) (lv' := [(2, iv (i + 1)), (0, rv g o), (1, rv g q)]) 2 dX1_isLike_70 rfl (Nat.le_of_ble_eq_true rfl) rfl ?_
              refine x_goto (tgt := 15) dX1_isLike_73 (by decide) ?_
              refine x_sub [1, 2, 0] rfl ?_
              exact ih_15 _ (by omega) (by exact ext_lt j1 ⟨by omega, by omega, by omega⟩) (by omega)
            · refine x_iconst (0) dX1_isLike_68 rfl ?_
              refine x_iret dX1_isLike_69 rfl (iZ_bool (by omega)) ?_
              exact ⟨_, rfl, rfl, Or.inr ⟨rfl, fun e => by have := e.2 i (by omega) (by omega); omega⟩⟩
  refine x_aload_n 0 dX1_isLike_0 rfl rfl ?_
  refine x_geti (k := 6) (kI := 6) dX1_isLike_1 fl1_30 ko rfl rfl (fun ⟨a18, a18'⟩ => ?_)
  refine x_aload_n 1 dX1_isLike_4 rfl rfl ?_
  refine x_geti (k := 6) (kI := 6) dX1_isLike_5 fl1_30 kq rfl rfl (fun ⟨a19, a19'⟩ => ?_)
  refine x_icmp_eq (tgt := 13) dX1_isLike_8 (by decide) ⟨by omega, by omega⟩ ⟨by omega, by omega⟩ (fun c20 => ?_) (fun c20 => ?_)
  · refine x_iconst (0) dX1_isLike_13 rfl ?_
    refine x_istore_n (lv' := [(2, iv 0), (0, rv g o), (1, rv g q)]) dX1_isLike_14 rfl (Nat.le_of_ble_eq_true rfl) rfl ?_
    refine x_sub [1, 2, 0] rfl ?_
    exact h_15 _ _ (by omega) (by intro j _ _; omega) (Nat.lt_succ_self _)
  · refine x_iconst (0) dX1_isLike_11 rfl ?_
    refine x_iret dX1_isLike_12 rfl (iZ_bool (by omega)) ?_
    exact ⟨_, rfl, rfl, Or.inr ⟨rfl, fun e => by have := e.1; omega⟩⟩

set_option maxHeartbeats 600000 in
set_option maxRecDepth 100000 in
theorem c_X1_recount (g : GG) (M : Mem) (o n T b : Int) (ko : isK 1 7 o) (ho : 17 < o ∧ o ≤ 41) (hR : RU M n T) (b0 : b = 0 ∨ b = 1) (hpd : ∀ r, 0 ≤ r → r < n → M (8 * r + 148) 7 = 0 ∨ M (8 * r + 148) 7 = 1) : Ct g yX1_recount cX1_recount 6 none 2 [rv g o, rv g 9, iv n, iv T, iv b] M (pV (fun M' => RC M o n T b M')) := by
  refine ct_of (by decide +kernel) (Nat.le_of_ble_eq_true rfl) ?_
  show Ok g mX1_recount (rmd 2) (FQ g (pV (fun M' => RC M o n T b M'))) 0 [(0, rv g o), (1, rv g 9), (2, iv n), (3, iv T), (4, iv b)] [] M
  obtain ⟨n0, n1, T0, T1, hr⟩ := id hR
  have h_12 : ∀ (n_12 : Nat) (M1 : Mem) (i : Int), (0 ≤ i ∧ i ≤ n ∧ M1 o 6 = T) → (∀ a k, ¬ (o ≤ a ∧ a ≤ o + 6) → M1 a k = M a k) → (BI M1 o (aT M) (aB M) (aM M) (aV M b) (aA M) i) → (n - i).toNat < n_12 → Ok g mX1_recount (rmd 2) (FQ g (pV (fun M' => RC M o n T b M'))) 12 [(0, rv g o), (1, rv g 9), (2, iv n), (3, iv T), (4, iv b), (5, iv i)] [] M1 := by
    intro n_12
    induction n_12 with
    | zero => intro M1 i j0 j1 j2 hn_12; exact absurd hn_12 (Nat.not_lt_zero _)
    | succ n_12 ih_12 =>
      intro M1 i j0 j1 j2 hn_12
      refine x_iload 5 dX1_recount_12 rfl ?_
      refine x_iload_n 2 dX1_recount_14 rfl rfl ?_
      refine x_icmp_ge (tgt := 54) dX1_recount_15 (by decide) ⟨by omega, by omega⟩ ⟨by omega, by omega⟩ (fun c1 => ?_) (fun c1 => ?_)
      · refine x_aload_n 0 dX1_recount_54 rfl rfl ?_
        refine x_callVV (as := []) (rest := []) dX1_recount_55 vl1_47 ko (c_X1_putInOrder g M1 o T ko (by omega) (by omega)) rfl rfl (Nat.le_of_ble_eq_true rfl) ⟨Nat.le_of_ble_eq_true rfl, Nat.le_of_ble_eq_true rfl⟩ (fun M4 h3 => ?_)
        obtain ⟨u4, u5⟩ := h3
        refine x_vret dX1_recount_58 rfl ?_
        refine ⟨rfl, fun a k h => ?_, ?_, ?_, u5⟩
        · rw [u4 _ _ (by omega)]; exact j1 a k h
        · rw [u4 _ _ (by omega)]; omega
        · have e9 : i = n := by omega
          rw [← e9]
          exact j2.cong (fun a k h => u4 _ _ (by omega))
      · refine x_iload 5 dX1_recount_18 rfl ?_
        refine x_aload_n 1 dX1_recount_20 rfl rfl ?_
        refine x_alen dX1_recount_21 k_9 (by decide) (fun U h => h.2.2.2.2.2.2.2.1) ?_
        have hri := hr i (by omega) (by omega)
        have hpi := hpd i (by omega) (by omega)
        have h9 := j2.rng (by omega) (by omega) (fun r x0 x1 => by unfold aM; have := hr r x0 (by omega); omega) (t := M (8 * i + 148) 4) (by omega) (by omega)
        refine x_icmp_ge (tgt := 54) dX1_recount_22 (by decide) ⟨by omega, by omega⟩ ⟨by decide, by decide⟩ (fun c5 => ?_) (fun c5 => ?_)
        · refine x_aload_n 0 dX1_recount_54 rfl rfl ?_
          refine x_callVV (as := []) (rest := []) dX1_recount_55 vl1_47 ko (c_X1_putInOrder g M1 o T ko (by omega) (by omega)) rfl rfl (Nat.le_of_ble_eq_true rfl) ⟨Nat.le_of_ble_eq_true rfl, Nat.le_of_ble_eq_true rfl⟩ (fun M8 h7 => ?_)
          obtain ⟨u4, u5⟩ := h7
          refine x_vret dX1_recount_58 rfl ?_
          refine ⟨rfl, fun a k h => ?_, ?_, ?_, u5⟩
          · rw [u4 _ _ (by omega)]; exact j1 a k h
          · rw [u4 _ _ (by omega)]; omega
          · have e9 : i = n := by omega
            rw [← e9]
            exact j2.cong (fun a k h => u4 _ _ (by omega))
        · refine x_iload 4 dX1_recount_25 rfl ?_
          refine x_if_eq (tgt := 40) dX1_recount_27 (by decide) ⟨by omega, by omega⟩ (fun c9 => ?_) (fun c9 => ?_)
          · refine x_aload_n 0 dX1_recount_40 rfl rfl ?_
            refine x_aload_n 1 dX1_recount_41 rfl rfl ?_
            refine x_iload 5 dX1_recount_42 rfl ?_
            refine x_aald31 dX1_recount_44 k_9 (by omega) (by omega) (by decide) (fun k10 => ?_)
            have ek10 : 9 + (139 + 8 * i) = 8 * i + 148 := by omega
            rw [ek10] at k10 ⊢
            refine x_callVV (as := [rv g (8 * i + 148)]) (rest := []) dX1_recount_45 vl1_43 ko (c_X1_count g M1 o i (M (8 * i + 148) 4) (M (8 * i + 148) 5) (M (8 * i + 148) 6) (M (8 * i + 148) 8) ko ho (by omega) (j1 _ _ (by omega)) (j1 _ _ (by omega)) (j1 _ _ (by omega)) (j1 _ _ (by omega)) (by omega) (by omega) (by omega) ⟨h9.1, h9.2.1, h9.2.2.1, h9.2.2.2.1, h9.2.2.2.2.1, h9.2.2.2.2.2.1, (h9.2.2.2.2.2.2 _ (by omega) (by omega)).1, (h9.2.2.2.2.2.2 _ (by omega) (by omega)).2.1⟩) rfl rfl (Nat.le_of_ble_eq_true rfl) ⟨Nat.le_of_ble_eq_true rfl, Nat.le_of_ble_eq_true rfl⟩ (fun M13 h12 => ?_)
            have hcn := h12
            refine x_iinc (z := i) (lv' := [(5, iv (i + 1)), (0, rv g o), (1, rv g 9), (2, iv n), (3, iv T), (4, iv b)]) 5 dX1_recount_48 rfl (Nat.le_of_ble_eq_true rfl) rfl ?_
            refine x_goto (tgt := 12) dX1_recount_51 (by decide) ?_
            refine x_sub [1, 2, 3, 4, 5, 0] rfl ?_
            exact ih_12 _ _ (by refine ⟨by omega, by omega, ?_⟩; rw [hcn.fr (by omega)]; omega) (by intro a k h; rw [hcn.fr (by omega)]; exact j1 a k h) (by exact j2.step (by omega) (by unfold aV; omega) (by unfold aT; omega) (by unfold aT; omega) (by unfold aB; omega) (by unfold aB; omega) (fun r x0 x1 => by unfold aM; have := hr r x0 (by omega); omega) hcn) (by omega)
          · refine x_aload_n 1 dX1_recount_30 rfl rfl ?_
            refine x_iload 5 dX1_recount_31 rfl ?_
            refine x_aald31 dX1_recount_33 k_9 (by omega) (by omega) (by decide) (fun k14 => ?_)
            have ek14 : 9 + (139 + 8 * i) = 8 * i + 148 := by omega
            rw [ek14] at k14 ⊢
            refine x_geti (k := 7) (kI := 7) dX1_recount_34 fl1_37 k14 rfl rfl (fun ⟨a15, a15'⟩ => ?_)
            have e16 : M1 (8 * i + 148) 7 = M (8 * i + 148) 7 := (j1 _ _ (by omega))
            simp only [e16] at a15 a15' ⊢
            refine x_if_ne (tgt := 48) dX1_recount_37 (by decide) ⟨by omega, by omega⟩ (fun c17 => ?_) (fun c17 => ?_)
            · refine x_iinc (z := i) (lv' := [(5, iv (i + 1)), (0, rv g o), (1, rv g 9), (2, iv n), (3, iv T), (4, iv b)]) 5 dX1_recount_48 rfl (Nat.le_of_ble_eq_true rfl) rfl ?_
              refine x_goto (tgt := 12) dX1_recount_51 (by decide) ?_
              refine x_sub [1, 2, 3, 4, 5, 0] rfl ?_
              exact ih_12 _ _ (by omega) (by exact j1) (by exact j2.skip (by omega) (by unfold aV; omega)) (by omega)
            · refine x_aload_n 0 dX1_recount_40 rfl rfl ?_
              refine x_aload_n 1 dX1_recount_41 rfl rfl ?_
              refine x_iload 5 dX1_recount_42 rfl ?_
              refine x_aald31 dX1_recount_44 k_9 (by omega) (by omega) (by decide) (fun k18 => ?_)
              have ek18 : 9 + (139 + 8 * i) = 8 * i + 148 := by omega
              rw [ek18] at k18 ⊢
              refine x_callVV (as := [rv g (8 * i + 148)]) (rest := []) dX1_recount_45 vl1_43 ko (c_X1_count g M1 o i (M (8 * i + 148) 4) (M (8 * i + 148) 5) (M (8 * i + 148) 6) (M (8 * i + 148) 8) ko ho (by omega) (j1 _ _ (by omega)) (j1 _ _ (by omega)) (j1 _ _ (by omega)) (j1 _ _ (by omega)) (by omega) (by omega) (by omega) ⟨h9.1, h9.2.1, h9.2.2.1, h9.2.2.2.1, h9.2.2.2.2.1, h9.2.2.2.2.2.1, (h9.2.2.2.2.2.2 _ (by omega) (by omega)).1, (h9.2.2.2.2.2.2 _ (by omega) (by omega)).2.1⟩) rfl rfl (Nat.le_of_ble_eq_true rfl) ⟨Nat.le_of_ble_eq_true rfl, Nat.le_of_ble_eq_true rfl⟩ (fun M21 h20 => ?_)
              have hcn := h20
              refine x_iinc (z := i) (lv' := [(5, iv (i + 1)), (0, rv g o), (1, rv g 9), (2, iv n), (3, iv T), (4, iv b)]) 5 dX1_recount_48 rfl (Nat.le_of_ble_eq_true rfl) rfl ?_
              refine x_goto (tgt := 12) dX1_recount_51 (by decide) ?_
              refine x_sub [1, 2, 3, 4, 5, 0] rfl ?_
              exact ih_12 _ _ (by refine ⟨by omega, by omega, ?_⟩; rw [hcn.fr (by omega)]; omega) (by intro a k h; rw [hcn.fr (by omega)]; exact j1 a k h) (by exact j2.step (by omega) (by unfold aV; omega) (by unfold aT; omega) (by unfold aT; omega) (by unfold aB; omega) (by unfold aB; omega) (fun r x0 x1 => by unfold aM; have := hr r x0 (by omega); omega) hcn) (by omega)
  refine x_aload_n 0 dX1_recount_0 rfl rfl ?_
  refine x_callVV (as := []) (rest := []) dX1_recount_1 vl1_34 ko (c_X1_clear g M o ko) rfl rfl (Nat.le_of_ble_eq_true rfl) ⟨Nat.le_of_ble_eq_true rfl, Nat.le_of_ble_eq_true rfl⟩ (fun M24 h23 => ?_)
  obtain ⟨u1, u2, u3⟩ := h23
  refine x_aload_n 0 dX1_recount_4 rfl rfl ?_
  refine x_iload_n 3 dX1_recount_5 rfl rfl ?_
  refine x_puti (k := 6) (kI := 6) dX1_recount_6 fw1_30 ko rfl ⟨by omega, by omega⟩ rfl rfl rfl ?_
  refine x_iconst (0) dX1_recount_9 rfl ?_
  refine x_istore (lv' := [(5, iv 0), (0, rv g o), (1, rv g 9), (2, iv n), (3, iv T), (4, iv b)]) dX1_recount_10 (Nat.le_of_ble_eq_true rfl) rfl ?_
  refine x_sub [1, 2, 3, 4, 5, 0] rfl ?_
  exact h_12 _ _ _ (by refine ⟨by omega, by omega, ?_⟩; rw [up_s]) (by intro a k h; rw [up_o (by omega)]; exact u1 a k (by omega)) (by exact (BI.ini u2 u3).cong (fun a k h => up_o (by omega))) (Nat.lt_succ_self _)
