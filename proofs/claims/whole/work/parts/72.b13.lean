set_option maxHeartbeats 600000 in
set_option maxRecDepth 100000 in
theorem c_X9_freeze (g : GG) (M : Mem) (m : Int) (I : RB M) (hm : rg m) : Ct g yX9_freeze cX9_freeze 4 (some .int) 3 [rv g 468, iv m] M (pI (fun z M' => (¬ (0 ≤ m ∧ m ≤ 999) ∧ M' = up M 468 0 1) ∨ (((0 ≤ m ∧ m ≤ 999) ∧ M 468 36 ≠ -1) ∧ M' = up M 468 0 2) ∨ (((0 ≤ m ∧ m ≤ 999) ∧ M 468 36 = -1) ∧ z = cnt (fun r => Pnd (up (up M 468 0 0) 468 36 m) r) (M 468 18) ∧ M' = (up (up M 468 0 0) 468 36 m)))) := by
  refine ct_of (by decide +kernel) (Nat.le_of_ble_eq_true rfl) ?_
  show Ok g mX9_freeze (rmd 3) (FQ g (pI (fun z M' => (¬ (0 ≤ m ∧ m ≤ 999) ∧ M' = up M 468 0 1) ∨ (((0 ≤ m ∧ m ≤ 999) ∧ M 468 36 ≠ -1) ∧ M' = up M 468 0 2) ∨ (((0 ≤ m ∧ m ≤ 999) ∧ M 468 36 = -1) ∧ z = cnt (fun r => Pnd (up (up M 468 0 0) 468 36 m) r) (M 468 18) ∧ M' = (up (up M 468 0 0) 468 36 m))))) 0 [(0, rv g 468), (1, iv m)] [] M
  have i0 := I.rng
  have hm1 := hm.1
  have hm2 := hm.2
  have h_46 : ∀ (n_46 : Nat) (h : Int) (r : Int), ((0 ≤ m ∧ m ≤ 999) ∧ M 468 36 = -1) → (0 ≤ r ∧ r ≤ M 468 18) → (h = cnt (fun r => Pnd (up (up M 468 0 0) 468 36 m) r) r) → (0 ≤ h ∧ h ≤ r) → (M 468 18 - r).toNat < n_46 → Ok g mX9_freeze (rmd 3) (FQ g (pI (fun z M' => (¬ (0 ≤ m ∧ m ≤ 999) ∧ M' = up M 468 0 1) ∨ (((0 ≤ m ∧ m ≤ 999) ∧ M 468 36 ≠ -1) ∧ M' = up M 468 0 2) ∨ (((0 ≤ m ∧ m ≤ 999) ∧ M 468 36 = -1) ∧ z = cnt (fun r => Pnd (up (up M 468 0 0) 468 36 m) r) (M 468 18) ∧ M' = (up (up M 468 0 0) 468 36 m))))) 46 [(0, rv g 468), (1, iv m), (2, iv h), (3, iv r)] [] (up (up M 468 0 0) 468 36 m) := by
    intro n_46
    induction n_46 with
    | zero => intro h r j9 j0 j1 j2 hn_46; exact absurd hn_46 (Nat.not_lt_zero _)
    | succ n_46 ih_46 =>
      intro h r j9 j0 j1 j2 hn_46
      refine x_iload_n 3 dX9_freeze_46 rfl rfl ?_
      refine x_aload_n 0 dX9_freeze_47 rfl rfl ?_
      refine x_geti (k := 18) (kI := 18) dX9_freeze_48 fl9_130 k_468 rfl rfl (fun ⟨a1, a1'⟩ => ?_)
      have e2 : (up (up M 468 0 0) 468 36 m) 468 18 = M 468 18 := (by simp (disch := omega) only [up_s, up_o, up_k])
      simp only [e2] at a1 a1' ⊢
      refine x_icmp_ge (tgt := 76) dX9_freeze_51 (by decide) ⟨by omega, by omega⟩ ⟨by omega, by omega⟩ (fun c3 => ?_) (fun c3 => ?_)
      · refine x_iload_n 2 dX9_freeze_76 rfl rfl ?_
        refine x_iret dX9_freeze_77 rfl rfl ?_
        exact ⟨_, rfl, Or.inr (Or.inr ⟨j9, by rw [j1, show r = M 468 18 by omega], rfl⟩)⟩
      · refine x_iload_n 2 dX9_freeze_54 rfl rfl ?_
        refine x_aload_n 0 dX9_freeze_55 rfl rfl ?_
        refine x_iload_n 3 dX9_freeze_56 rfl rfl ?_
        refine x_callVIP (as := [iv r]) (rest := [iv h]) dX9_freeze_57 vl9_209 k_468 (c_X9_isPending g (up (up M 468 0 0) 468 36 m) r (I.frz (by omega) (by omega)) (by omega) (by simp (disch := omega) only [up_k]; omega)) rfl rfl (Nat.le_of_ble_eq_true rfl) ⟨Nat.le_of_ble_eq_true rfl, Nat.le_of_ble_eq_true rfl⟩ (fun z4 h5 => ?_)
        have hp := h5
        refine x_if_eq (tgt := 67) dX9_freeze_60 (by decide) ⟨by omega, by omega⟩ (fun c7 => ?_) (fun c7 => ?_)
        · refine x_iconst (0) dX9_freeze_67 rfl ?_
          refine x_iadd dX9_freeze_68 ?_
          refine x_istore_n (lv' := [(2, iv (h + 0)), (0, rv g 468), (1, iv m), (3, iv r)]) dX9_freeze_69 rfl (Nat.le_of_ble_eq_true rfl) rfl ?_
          refine x_iinc (z := r) (lv' := [(3, iv (r + 1)), (2, iv (h + 0)), (0, rv g 468), (1, iv m)]) 3 dX9_freeze_70 rfl (Nat.le_of_ble_eq_true rfl) rfl ?_
          refine x_goto (tgt := 46) dX9_freeze_73 (by decide) ?_
          refine x_sub [2, 3, 1, 0] rfl ?_
          exact ih_46 _ _ (by omega) (by omega) (by rcases hp with ⟨e, e2⟩ | ⟨e, e2⟩; omega; rw [cnt_f (by omega) e2, ← j1]; omega) (by omega) (by omega)
        · refine x_iconst (1) dX9_freeze_63 rfl ?_
          refine x_goto (tgt := 68) dX9_freeze_64 (by decide) ?_
          refine x_iadd dX9_freeze_68 ?_
          refine x_istore_n (lv' := [(2, iv (h + 1)), (0, rv g 468), (1, iv m), (3, iv r)]) dX9_freeze_69 rfl (Nat.le_of_ble_eq_true rfl) rfl ?_
          refine x_iinc (z := r) (lv' := [(3, iv (r + 1)), (2, iv (h + 1)), (0, rv g 468), (1, iv m)]) 3 dX9_freeze_70 rfl (Nat.le_of_ble_eq_true rfl) rfl ?_
          refine x_goto (tgt := 46) dX9_freeze_73 (by decide) ?_
          refine x_sub [2, 3, 1, 0] rfl ?_
          exact ih_46 _ _ (by omega) (by omega) (by rcases hp with ⟨e, e2⟩ | ⟨e, e2⟩; rw [cnt_t (by omega) e2, ← j1]; omega) (by omega) (by omega)
  refine x_aload_n 0 dX9_freeze_0 rfl rfl ?_
  refine x_iload_n 1 dX9_freeze_1 rfl rfl ?_
  refine x_iconst (0) dX9_freeze_2 rfl ?_
  refine x_sipush (999) dX9_freeze_3 rfl ?_
  refine x_callSIP (as := [iv m, iv 0, iv 999]) (rest := [rv g 468]) dX9_freeze_6 sl9_103 (c_X9_in g M m 0 999 ⟨by omega, by omega⟩ ⟨by omega, by omega⟩ ⟨by omega, by omega⟩) rfl rfl (Nat.le_of_ble_eq_true rfl) ⟨Nat.le_of_ble_eq_true rfl, Nat.le_of_ble_eq_true rfl⟩ (fun z8 h9 => ?_)
  refine x_if_ne (tgt := 16) dX9_freeze_9 (by decide) ⟨by omega, by omega⟩ (fun c11 => ?_) (fun c11 => ?_)
  · refine x_aload_n 0 dX9_freeze_16 rfl rfl ?_
    refine x_geti (k := 36) (kI := 36) dX9_freeze_17 fl9_92 k_468 rfl rfl (fun ⟨a12, a12'⟩ => ?_)
    refine x_iconst (-1) dX9_freeze_20 rfl ?_
    refine x_icmp_eq (tgt := 28) dX9_freeze_21 (by decide) ⟨by omega, by omega⟩ ⟨by decide, by decide⟩ (fun c13 => ?_) (fun c13 => ?_)
    · refine x_iconst (0) dX9_freeze_28 rfl ?_
      refine x_callVIP (as := [iv 0]) (rest := []) dX9_freeze_29 vl9_114 k_468 (c_X9_fails g M 0 (by omega) (by omega)) rfl rfl (Nat.le_of_ble_eq_true rfl) ⟨Nat.le_of_ble_eq_true rfl, Nat.le_of_ble_eq_true rfl⟩ (fun z14 h15 => ?_)
      refine x_if_eq (tgt := 37) dX9_freeze_32 (by decide) ⟨by omega, by omega⟩ (fun c17 => ?_) (fun c17 => ?_)
      · skip
        refine x_aload_n 0 dX9_freeze_37 rfl rfl ?_
        refine x_iload_n 1 dX9_freeze_38 rfl rfl ?_
        refine x_puti (k := 36) (kI := 36) dX9_freeze_39 fw9_92 k_468 rfl ⟨by omega, by omega⟩ rfl rfl rfl ?_
        refine x_iconst (0) dX9_freeze_42 rfl ?_
        refine x_istore_n (lv' := [(2, iv 0), (0, rv g 468), (1, iv m)]) dX9_freeze_43 rfl (Nat.le_of_ble_eq_true rfl) rfl ?_
        refine x_iconst (0) dX9_freeze_44 rfl ?_
        refine x_istore_n (lv' := [(3, iv 0), (2, iv 0), (0, rv g 468), (1, iv m)]) dX9_freeze_45 rfl (Nat.le_of_ble_eq_true rfl) rfl ?_
        refine x_sub [2, 3, 1, 0] rfl ?_
        exact h_46 _ _ _ (by omega) (by omega) (by exact (cnt_0 _).symm) (by omega) (Nat.lt_succ_self _)
      · refine x_iconst (0) dX9_freeze_35 rfl ?_
        refine x_iret dX9_freeze_36 rfl rfl ?_
        exfalso; omega
    · refine x_iconst (2) dX9_freeze_24 rfl ?_
      refine x_goto (tgt := 29) dX9_freeze_25 (by decide) ?_
      refine x_callVIP (as := [iv 2]) (rest := []) dX9_freeze_29 vl9_114 k_468 (c_X9_fails g M 2 (by omega) (by omega)) rfl rfl (Nat.le_of_ble_eq_true rfl) ⟨Nat.le_of_ble_eq_true rfl, Nat.le_of_ble_eq_true rfl⟩ (fun z18 h19 => ?_)
      refine x_if_eq (tgt := 37) dX9_freeze_32 (by decide) ⟨by omega, by omega⟩ (fun c21 => ?_) (fun c21 => ?_)
      · exfalso; omega
      · refine x_iconst (0) dX9_freeze_35 rfl ?_
        refine x_iret dX9_freeze_36 rfl rfl ?_
        exact ⟨_, rfl, Or.inr (Or.inl ⟨by omega, rfl⟩)⟩
  · refine x_iconst (1) dX9_freeze_12 rfl ?_
    refine x_goto (tgt := 29) dX9_freeze_13 (by decide) ?_
    refine x_callVIP (as := [iv 1]) (rest := []) dX9_freeze_29 vl9_114 k_468 (c_X9_fails g M 1 (by omega) (by omega)) rfl rfl (Nat.le_of_ble_eq_true rfl) ⟨Nat.le_of_ble_eq_true rfl, Nat.le_of_ble_eq_true rfl⟩ (fun z22 h23 => ?_)
    refine x_if_eq (tgt := 37) dX9_freeze_32 (by decide) ⟨by omega, by omega⟩ (fun c25 => ?_) (fun c25 => ?_)
    · exfalso; omega
    · refine x_iconst (0) dX9_freeze_35 rfl ?_
      refine x_iret dX9_freeze_36 rfl rfl ?_
      exact ⟨_, rfl, Or.inl ⟨by omega, rfl⟩⟩

set_option maxHeartbeats 600000 in
set_option maxRecDepth 100000 in
theorem c_X9_open (g : GG) (M : Mem)  (I : RB M) : Ct g yX9_open cX9_open 4 (some .int) 5 [rv g 468] M (pI (fun z M' => ((∀ q, 0 ≤ q → q < M 468 17 → PIn M q = -1) ∧ M' = up M 468 0 1) ∨ ((0 ≤ z ∧ z < M 468 17 ∧ PIn M z ≠ -1 ∧ ∀ q, 0 ≤ q → q < M 468 17 → PIn M q ≠ -1 → q ≠ z → Ahd M 1 q z) ∧ M' 468 0 = 0 ∧ (∀ o k, o ≠ 496 → ¬ (o = 468 ∧ k = 0) → M' o k = M o k) ∧ ∀ q, M' 496 q = @ite Int ((0 ≤ q ∧ q < M 468 18) ∧ M 481 q = z ∧ M 482 q = PIn M z ∧ Pnd M q) (Classical.propDecidable _) 1 (M 496 q)))) := by
  refine ct_of (by decide +kernel) (Nat.le_of_ble_eq_true rfl) ?_
  show Ok g mX9_open (rmd 5) (FQ g (pI (fun z M' => ((∀ q, 0 ≤ q → q < M 468 17 → PIn M q = -1) ∧ M' = up M 468 0 1) ∨ ((0 ≤ z ∧ z < M 468 17 ∧ PIn M z ≠ -1 ∧ ∀ q, 0 ≤ q → q < M 468 17 → PIn M q ≠ -1 → q ≠ z → Ahd M 1 q z) ∧ M' 468 0 = 0 ∧ (∀ o k, o ≠ 496 → ¬ (o = 468 ∧ k = 0) → M' o k = M o k) ∧ ∀ q, M' 496 q = @ite Int ((0 ≤ q ∧ q < M 468 18) ∧ M 481 q = z ∧ M 482 q = PIn M z ∧ Pnd M q) (Classical.propDecidable _) 1 (M 496 q))))) 0 [(0, rv g 468)] [] M
  have i0 := I.rng
  classical
  have h_71 : ∀ (n_71 : Nat) (M1 : Mem) (w : Int) (r : Int) (u : Int), (u = PIn M w ∧ -1 ≤ u ∧ u ≤ 5) → (0 ≤ r ∧ r ≤ M 468 18) → (0 ≤ w ∧ w < M 468 17 ∧ PIn M w ≠ -1 ∧ ∀ q, 0 ≤ q → q < M 468 17 → PIn M q ≠ -1 → q ≠ w → Ahd M 1 q w) → (M1 468 0 = 0) → (∀ o k, o ≠ 496 → ¬ (o = 468 ∧ k = 0) → M1 o k = M o k) → (∀ q, M1 496 q = @ite Int ((0 ≤ q ∧ q < r) ∧ M 481 q = w ∧ M 482 q = PIn M w ∧ Pnd M q) (Classical.propDecidable _) 1 (M 496 q)) → (M 468 18 - r).toNat < n_71 → Ok g mX9_open (rmd 5) (FQ g (pI (fun z M' => ((∀ q, 0 ≤ q → q < M 468 17 → PIn M q = -1) ∧ M' = up M 468 0 1) ∨ ((0 ≤ z ∧ z < M 468 17 ∧ PIn M z ≠ -1 ∧ ∀ q, 0 ≤ q → q < M 468 17 → PIn M q ≠ -1 → q ≠ z → Ahd M 1 q z) ∧ M' 468 0 = 0 ∧ (∀ o k, o ≠ 496 → ¬ (o = 468 ∧ k = 0) → M' o k = M o k) ∧ ∀ q, M' 496 q = @ite Int ((0 ≤ q ∧ q < M 468 18) ∧ M 481 q = z ∧ M 482 q = PIn M z ∧ Pnd M q) (Classical.propDecidable _) 1 (M 496 q))))) 71 [(0, rv g 468), (1, iv w), (2, iv u), (3, iv r)] [] M1 := by
    intro n_71
    induction n_71 with
    | zero => intro M1 w r u l5 l0 l1 l2 l3 l4 hn_71; exact absurd hn_71 (Nat.not_lt_zero _)
    | succ n_71 ih_71 =>
      intro M1 w r u l5 l0 l1 l2 l3 l4 hn_71
      refine x_iload_n 3 dX9_open_71 rfl rfl ?_
      refine x_aload_n 0 dX9_open_72 rfl rfl ?_
      refine x_geti (k := 18) (kI := 18) dX9_open_73 fl9_130 k_468 rfl rfl (fun ⟨a1, a1'⟩ => ?_)
      have e2 : M1 468 18 = M 468 18 := (l3 _ _ (by omega) (by omega))
      simp only [e2] at a1 a1' ⊢
      refine x_icmp_ge (tgt := 120) dX9_open_76 (by decide) ⟨by omega, by omega⟩ ⟨by omega, by omega⟩ (fun c3 => ?_) (fun c3 => ?_)
      · refine x_iload_n 1 dX9_open_120 rfl rfl ?_
        refine x_iret dX9_open_121 rfl rfl ?_
        refine ⟨_, rfl, Or.inr ⟨l1, l2, l3, fun q => ?_⟩⟩
        rw [l4 q, show r = M 468 18 by omega]
      · refine x_aload_n 0 dX9_open_79 rfl rfl ?_
        refine x_getr (k := 19) (d := 13) dX9_open_80 fl9_47 k_468 rfl (fun k4 => ?_)
        have k4 : isK 20 40 481 := k4
        show Ok g mX9_open (rmd 5) (FQ g (pI (fun z M' => ((∀ q, 0 ≤ q → q < M 468 17 → PIn M q = -1) ∧ M' = up M 468 0 1) ∨ ((0 ≤ z ∧ z < M 468 17 ∧ PIn M z ≠ -1 ∧ ∀ q, 0 ≤ q → q < M 468 17 → PIn M q ≠ -1 → q ≠ z → Ahd M 1 q z) ∧ M' 468 0 = 0 ∧ (∀ o k, o ≠ 496 → ¬ (o = 468 ∧ k = 0) → M' o k = M o k) ∧ ∀ q, M' 496 q = @ite Int ((0 ≤ q ∧ q < M 468 18) ∧ M 481 q = z ∧ M 482 q = PIn M z ∧ Pnd M q) (Classical.propDecidable _) 1 (M 496 q))))) 83 [(0, rv g 468), (1, iv w), (2, iv u), (3, iv r)] [rv g 481] M1
        refine x_iload_n 3 dX9_open_83 rfl rfl ?_
        refine x_iald dX9_open_84 k4 (by omega) (by omega) (by decide) (fun ⟨a5, a5'⟩ => ?_)
        have e6 : M1 481 r = M 481 r := (l3 _ _ (by omega) (by omega))
        simp only [e6] at a5 a5' ⊢
        refine x_iload_n 1 dX9_open_85 rfl rfl ?_
        refine x_icmp_ne (tgt := 114) dX9_open_86 (by decide) ⟨by omega, by omega⟩ ⟨by omega, by omega⟩ (fun c7 => ?_) (fun c7 => ?_)
        · refine x_iinc (z := r) (lv' := [(3, iv (r + 1)), (0, rv g 468), (1, iv w), (2, iv u)]) 3 dX9_open_114 rfl (Nat.le_of_ble_eq_true rfl) rfl ?_
          refine x_goto (tgt := 71) dX9_open_117 (by decide) ?_
          refine x_sub [1, 2, 3, 0] rfl ?_
          exact ih_71 _ _ _ _ (by exact l5) (by omega) (by exact l1) (by exact l2) (by exact l3) (by intro q; rw [l4 q]; by_cases e : q = r; rw [e, if_neg (by omega), if_neg]; intro h; obtain ⟨-, h1, h2, h3⟩ := h; omega; by_cases e2 : (0 ≤ q ∧ q < r) ∧ M 481 q = w ∧ M 482 q = PIn M w ∧ Pnd M q; rw [if_pos e2, if_pos ⟨by omega, e2.2⟩]; rw [if_neg e2, if_neg (fun h => e2 ⟨by omega, h.2⟩)]) (by omega)
        · refine x_aload_n 0 dX9_open_89 rfl rfl ?_
          refine x_getr (k := 20) (d := 14) dX9_open_90 fl9_50 k_468 rfl (fun k8 => ?_)
          have k8 : isK 20 40 482 := k8
          show Ok g mX9_open (rmd 5) (FQ g (pI (fun z M' => ((∀ q, 0 ≤ q → q < M 468 17 → PIn M q = -1) ∧ M' = up M 468 0 1) ∨ ((0 ≤ z ∧ z < M 468 17 ∧ PIn M z ≠ -1 ∧ ∀ q, 0 ≤ q → q < M 468 17 → PIn M q ≠ -1 → q ≠ z → Ahd M 1 q z) ∧ M' 468 0 = 0 ∧ (∀ o k, o ≠ 496 → ¬ (o = 468 ∧ k = 0) → M' o k = M o k) ∧ ∀ q, M' 496 q = @ite Int ((0 ≤ q ∧ q < M 468 18) ∧ M 481 q = z ∧ M 482 q = PIn M z ∧ Pnd M q) (Classical.propDecidable _) 1 (M 496 q))))) 93 [(0, rv g 468), (1, iv w), (2, iv u), (3, iv r)] [rv g 482] M1
          refine x_iload_n 3 dX9_open_93 rfl rfl ?_
          refine x_iald dX9_open_94 k8 (by omega) (by omega) (by decide) (fun ⟨a9, a9'⟩ => ?_)
          have e10 : M1 482 r = M 482 r := (l3 _ _ (by omega) (by omega))
          simp only [e10] at a9 a9' ⊢
          refine x_iload_n 2 dX9_open_95 rfl rfl ?_
          refine x_icmp_ne (tgt := 114) dX9_open_96 (by decide) ⟨by omega, by omega⟩ ⟨by omega, by omega⟩ (fun c11 => ?_) (fun c11 => ?_)
          · refine x_iinc (z := r) (lv' := [(3, iv (r + 1)), (0, rv g 468), (1, iv w), (2, iv u)]) 3 dX9_open_114 rfl (Nat.le_of_ble_eq_true rfl) rfl ?_
            refine x_goto (tgt := 71) dX9_open_117 (by decide) ?_
            refine x_sub [1, 2, 3, 0] rfl ?_
            exact ih_71 _ _ _ _ (by exact l5) (by omega) (by exact l1) (by exact l2) (by exact l3) (by intro q; rw [l4 q]; by_cases e : q = r; rw [e, if_neg (by omega), if_neg]; intro h; obtain ⟨-, h1, h2, h3⟩ := h; omega; by_cases e2 : (0 ≤ q ∧ q < r) ∧ M 481 q = w ∧ M 482 q = PIn M w ∧ Pnd M q; rw [if_pos e2, if_pos ⟨by omega, e2.2⟩]; rw [if_neg e2, if_neg (fun h => e2 ⟨by omega, h.2⟩)]) (by omega)
          · refine x_aload_n 0 dX9_open_99 rfl rfl ?_
            refine x_iload_n 3 dX9_open_100 rfl rfl ?_
            refine x_callVIP (as := [iv r]) (rest := []) dX9_open_101 vl9_209 k_468 (c_X9_isPending g M1 r (I.opened l3 (fun q q0 q1 => by rw [l4 q]; split; right; omega; left; rfl)) (by omega) (by omega)) rfl rfl (Nat.le_of_ble_eq_true rfl) ⟨Nat.le_of_ble_eq_true rfl, Nat.le_of_ble_eq_true rfl⟩ (fun z12 h13 => ?_)
            have hp := h13
            refine x_if_eq (tgt := 114) dX9_open_104 (by decide) ⟨by omega, by omega⟩ (fun c15 => ?_) (fun c15 => ?_)
            · refine x_iinc (z := r) (lv' := [(3, iv (r + 1)), (0, rv g 468), (1, iv w), (2, iv u)]) 3 dX9_open_114 rfl (Nat.le_of_ble_eq_true rfl) rfl ?_
              refine x_goto (tgt := 71) dX9_open_117 (by decide) ?_
              refine x_sub [1, 2, 3, 0] rfl ?_
              exact ih_71 _ _ _ _ (by exact l5) (by omega) (by exact l1) (by exact l2) (by exact l3) (by intro q; rw [l4 q]; by_cases e : q = r; rw [e, if_neg (by omega), if_neg]; intro h; obtain ⟨-, h1, h2, h3⟩ := h; rcases hp with ⟨e9, _⟩ | ⟨_, e9⟩; omega; exact e9 ((pnd_at l3 (by omega) l4 (by omega)).mpr h3); by_cases e2 : (0 ≤ q ∧ q < r) ∧ M 481 q = w ∧ M 482 q = PIn M w ∧ Pnd M q; rw [if_pos e2, if_pos ⟨by omega, e2.2⟩]; rw [if_neg e2, if_neg (fun h => e2 ⟨by omega, h.2⟩)]) (by omega)
            · refine x_aload_n 0 dX9_open_107 rfl rfl ?_
              refine x_getr (k := 37) (d := 28) dX9_open_108 fl9_96 k_468 rfl (fun k16 => ?_)
              have k16 : isK 22 40 496 := k16
              show Ok g mX9_open (rmd 5) (FQ g (pI (fun z M' => ((∀ q, 0 ≤ q → q < M 468 17 → PIn M q = -1) ∧ M' = up M 468 0 1) ∨ ((0 ≤ z ∧ z < M 468 17 ∧ PIn M z ≠ -1 ∧ ∀ q, 0 ≤ q → q < M 468 17 → PIn M q ≠ -1 → q ≠ z → Ahd M 1 q z) ∧ M' 468 0 = 0 ∧ (∀ o k, o ≠ 496 → ¬ (o = 468 ∧ k = 0) → M' o k = M o k) ∧ ∀ q, M' 496 q = @ite Int ((0 ≤ q ∧ q < M 468 18) ∧ M 481 q = z ∧ M 482 q = PIn M z ∧ Pnd M q) (Classical.propDecidable _) 1 (M 496 q))))) 111 [(0, rv g 468), (1, iv w), (2, iv u), (3, iv r)] [rv g 496] M1
              refine x_iload_n 3 dX9_open_111 rfl rfl ?_
              refine x_iconst (1) dX9_open_112 rfl ?_
              refine x_zast dX9_open_113 k16 (by omega) (by omega) (by decide) ⟨by decide, by decide⟩ (by omega) ?_
              refine x_iinc (z := r) (lv' := [(3, iv (r + 1)), (0, rv g 468), (1, iv w), (2, iv u)]) 3 dX9_open_114 rfl (Nat.le_of_ble_eq_true rfl) rfl ?_
              refine x_goto (tgt := 71) dX9_open_117 (by decide) ?_
              refine x_sub [1, 2, 3, 0] rfl ?_
              exact ih_71 _ _ _ _ (by exact l5) (by omega) (by exact l1) (by rw [up_o (by omega)]; exact l2) (by intro o k a1 a2; rw [up_o a1]; exact l3 o k a1 a2) (by intro q; by_cases e : q = r; rw [e, up_s, if_pos ⟨by omega, by omega, by omega, (pnd_at l3 (by omega) l4 (by omega)).mp (by rcases hp with ⟨_, e9⟩ | ⟨e9, _⟩; exact e9; omega)⟩]; rw [up_k e, l4 q]; by_cases e2 : (0 ≤ q ∧ q < r) ∧ M 481 q = w ∧ M 482 q = PIn M w ∧ Pnd M q; rw [if_pos e2, if_pos ⟨by omega, e2.2⟩]; rw [if_neg e2, if_neg (fun h => e2 ⟨by omega, h.2⟩)]) (by omega)
  have h_4 : ∀ (n_4 : Nat) (w : Int) (t : Int), (0 ≤ t ∧ t ≤ M 468 17 ∧ -1 ≤ w ∧ w < 8) → (OI M w t) → (M 468 17 - t).toNat < n_4 → Ok g mX9_open (rmd 5) (FQ g (pI (fun z M' => ((∀ q, 0 ≤ q → q < M 468 17 → PIn M q = -1) ∧ M' = up M 468 0 1) ∨ ((0 ≤ z ∧ z < M 468 17 ∧ PIn M z ≠ -1 ∧ ∀ q, 0 ≤ q → q < M 468 17 → PIn M q ≠ -1 → q ≠ z → Ahd M 1 q z) ∧ M' 468 0 = 0 ∧ (∀ o k, o ≠ 496 → ¬ (o = 468 ∧ k = 0) → M' o k = M o k) ∧ ∀ q, M' 496 q = @ite Int ((0 ≤ q ∧ q < M 468 18) ∧ M 481 q = z ∧ M 482 q = PIn M z ∧ Pnd M q) (Classical.propDecidable _) 1 (M 496 q))))) 4 [(0, rv g 468), (1, iv w), (2, iv t)] [] M := by
    intro n_4
    induction n_4 with
    | zero => intro w t j0 j1 hn_4; exact absurd hn_4 (Nat.not_lt_zero _)
    | succ n_4 ih_4 =>
      intro w t j0 j1 hn_4
      refine x_iload_n 2 dX9_open_4 rfl rfl ?_
      refine x_aload_n 0 dX9_open_5 rfl rfl ?_
      refine x_geti (k := 17) (kI := 17) dX9_open_6 fl9_127 k_468 rfl rfl (fun ⟨a17, a17'⟩ => ?_)
      refine x_icmp_ge (tgt := 44) dX9_open_9 (by decide) ⟨by omega, by omega⟩ ⟨by omega, by omega⟩ (fun c18 => ?_) (fun c18 => ?_)
      · refine x_aload_n 0 dX9_open_44 rfl rfl ?_
        refine x_iload_n 1 dX9_open_45 rfl rfl ?_
        refine x_iconst (-1) dX9_open_46 rfl ?_
        refine x_icmp_ne (tgt := 54) dX9_open_47 (by decide) ⟨by omega, by omega⟩ ⟨by decide, by decide⟩ (fun c19 => ?_) (fun c19 => ?_)
        · refine x_iconst (0) dX9_open_54 rfl ?_
          refine x_callVIP (as := [iv 0]) (rest := []) dX9_open_55 vl9_114 k_468 (c_X9_fails g M 0 (by omega) (by omega)) rfl rfl (Nat.le_of_ble_eq_true rfl) ⟨Nat.le_of_ble_eq_true rfl, Nat.le_of_ble_eq_true rfl⟩ (fun z20 h21 => ?_)
          refine x_if_eq (tgt := 63) dX9_open_58 (by decide) ⟨by omega, by omega⟩ (fun c23 => ?_) (fun c23 => ?_)
          · skip
            refine x_aload_n 0 dX9_open_63 rfl rfl ?_
            refine x_iload_n 1 dX9_open_64 rfl rfl ?_
            refine x_callVIP (as := [iv w]) (rest := []) dX9_open_65 vl9_215 k_468 (c_X9_pendingIn g (up M 468 0 0) w (I.code 0) (by omega) (by omega)) rfl rfl (Nat.le_of_ble_eq_true rfl) ⟨Nat.le_of_ble_eq_true rfl, Nat.le_of_ble_eq_true rfl⟩ (fun z24 h25 => ?_)
            have hp : z24 = PIn M w := h25.trans PIn_code
            have hpr := PIn_rng (M := M) (t := w) (by omega)
            refine x_istore_n (lv' := [(2, iv z24), (0, rv g 468), (1, iv w)]) dX9_open_68 rfl (Nat.le_of_ble_eq_true rfl) rfl ?_
            refine x_iconst (0) dX9_open_69 rfl ?_
            refine x_istore_n (lv' := [(3, iv 0), (2, iv z24), (0, rv g 468), (1, iv w)]) dX9_open_70 rfl (Nat.le_of_ble_eq_true rfl) rfl ?_
            refine x_sub [2, 3, 1, 0] rfl ?_
            exact h_71 _ _ _ _ _ (by omega) (by omega) (by have j2 := j1; rw [show t = M 468 17 by omega] at j2; exact OI.at j2 (by omega)) (by exact up_s _ _ _ _) (by intro o k a1 a2; exact up_n (by omega)) (by intro q; rw [up_o (by omega), if_neg (by omega)]) (Nat.lt_succ_self _)
          · refine x_iconst (0) dX9_open_61 rfl ?_
            refine x_iret dX9_open_62 rfl rfl ?_
            exfalso; omega
        · refine x_iconst (1) dX9_open_50 rfl ?_
          refine x_goto (tgt := 55) dX9_open_51 (by decide) ?_
          refine x_callVIP (as := [iv 1]) (rest := []) dX9_open_55 vl9_114 k_468 (c_X9_fails g M 1 (by omega) (by omega)) rfl rfl (Nat.le_of_ble_eq_true rfl) ⟨Nat.le_of_ble_eq_true rfl, Nat.le_of_ble_eq_true rfl⟩ (fun z27 h28 => ?_)
          refine x_if_eq (tgt := 63) dX9_open_58 (by decide) ⟨by omega, by omega⟩ (fun c30 => ?_) (fun c30 => ?_)
          · exfalso; omega
          · refine x_iconst (0) dX9_open_61 rfl ?_
            refine x_iret dX9_open_62 rfl rfl ?_
            exact ⟨_, rfl, Or.inl ⟨OI.none j1 (by omega) (show t = M 468 17 by omega), rfl⟩⟩
      · refine x_aload_n 0 dX9_open_12 rfl rfl ?_
        refine x_iload_n 2 dX9_open_13 rfl rfl ?_
        refine x_callVIP (as := [iv t]) (rest := []) dX9_open_14 vl9_215 k_468 (c_X9_pendingIn g M t I (by omega) (by omega)) rfl rfl (Nat.le_of_ble_eq_true rfl) ⟨Nat.le_of_ble_eq_true rfl, Nat.le_of_ble_eq_true rfl⟩ (fun z31 h32 => ?_)
        have hp : z31 = PIn M t := h32
        have hpr := PIn_rng (M := M) (t := t) (by omega)
        refine x_iconst (-1) dX9_open_17 rfl ?_
        refine x_icmp_eq (tgt := 38) dX9_open_18 (by decide) ⟨by omega, by omega⟩ ⟨by decide, by decide⟩ (fun c34 => ?_) (fun c34 => ?_)
        · refine x_iinc (z := t) (lv' := [(2, iv (t + 1)), (0, rv g 468), (1, iv w)]) 2 dX9_open_38 rfl (Nat.le_of_ble_eq_true rfl) rfl ?_
          refine x_goto (tgt := 4) dX9_open_41 (by decide) ?_
          refine x_sub [1, 2, 0] rfl ?_
          exact ih_4 _ _ (by omega) (by exact j1.skip (by omega)) (by omega)
        · refine x_iload_n 1 dX9_open_21 rfl rfl ?_
          refine x_iconst (-1) dX9_open_22 rfl ?_
          refine x_icmp_eq (tgt := 36) dX9_open_23 (by decide) ⟨by omega, by omega⟩ ⟨by decide, by decide⟩ (fun c35 => ?_) (fun c35 => ?_)
          · refine x_iload_n 2 dX9_open_36 rfl rfl ?_
            refine x_istore_n (lv' := [(1, iv t), (0, rv g 468), (2, iv t)]) dX9_open_37 rfl (Nat.le_of_ble_eq_true rfl) rfl ?_
            refine x_iinc (z := t) (lv' := [(2, iv (t + 1)), (1, iv t), (0, rv g 468)]) 2 dX9_open_38 rfl (Nat.le_of_ble_eq_true rfl) rfl ?_
            refine x_goto (tgt := 4) dX9_open_41 (by decide) ?_
            refine x_sub [2, 1, 0] rfl ?_
            exact ih_4 _ _ (by omega) (by exact j1.take (by omega) (by omega) (by first | (left; omega) | (right; rcases ha with ⟨_, e⟩ | ⟨e, _⟩; exact e; omega))) (by omega)
          · refine x_aload_n 0 dX9_open_26 rfl rfl ?_
            refine x_iload_n 1 dX9_open_27 rfl rfl ?_
            refine x_iload_n 2 dX9_open_28 rfl rfl ?_
            refine x_iconst (1) dX9_open_29 rfl ?_
            refine x_callVIP (as := [iv w, iv t, iv 1]) (rest := []) dX9_open_30 vl9_218 k_468 (c_X9_isAhead g M w t 1 I (by omega) (by omega) (by omega) (by omega) (by omega)) rfl rfl (Nat.le_of_ble_eq_true rfl) ⟨Nat.le_of_ble_eq_true rfl, Nat.le_of_ble_eq_true rfl⟩ (fun z36 h37 => ?_)
            have ha := h37
            refine x_if_eq (tgt := 38) dX9_open_33 (by decide) ⟨by omega, by omega⟩ (fun c39 => ?_) (fun c39 => ?_)
            · refine x_iinc (z := t) (lv' := [(2, iv (t + 1)), (0, rv g 468), (1, iv w)]) 2 dX9_open_38 rfl (Nat.le_of_ble_eq_true rfl) rfl ?_
              refine x_goto (tgt := 4) dX9_open_41 (by decide) ?_
              refine x_sub [1, 2, 0] rfl ?_
              exact ih_4 _ _ (by omega) (by exact j1.keep (by omega) (by rcases ha with ⟨e, _⟩ | ⟨_, e⟩; omega; exact e)) (by omega)
            · refine x_iload_n 2 dX9_open_36 rfl rfl ?_
              refine x_istore_n (lv' := [(1, iv t), (0, rv g 468), (2, iv t)]) dX9_open_37 rfl (Nat.le_of_ble_eq_true rfl) rfl ?_
              refine x_iinc (z := t) (lv' := [(2, iv (t + 1)), (1, iv t), (0, rv g 468)]) 2 dX9_open_38 rfl (Nat.le_of_ble_eq_true rfl) rfl ?_
              refine x_goto (tgt := 4) dX9_open_41 (by decide) ?_
              refine x_sub [2, 1, 0] rfl ?_
              exact ih_4 _ _ (by omega) (by exact j1.take (by omega) (by omega) (by first | (left; omega) | (right; rcases ha with ⟨_, e⟩ | ⟨e, _⟩; exact e; omega))) (by omega)
  refine x_iconst (-1) dX9_open_0 rfl ?_
  refine x_istore_n (lv' := [(1, iv ((-1))), (0, rv g 468)]) dX9_open_1 rfl (Nat.le_of_ble_eq_true rfl) rfl ?_
  refine x_iconst (0) dX9_open_2 rfl ?_
  refine x_istore_n (lv' := [(2, iv 0), (1, iv ((-1))), (0, rv g 468)]) dX9_open_3 rfl (Nat.le_of_ble_eq_true rfl) rfl ?_
  refine x_sub [2, 1, 0] rfl ?_
  exact h_4 _ _ _ (by omega) (by exact Or.inl ⟨rfl, fun q _ _ => by omega⟩) (Nat.lt_succ_self _)
