set_option maxHeartbeats 600000 in
set_option maxRecDepth 100000 in
theorem c_X8_freeze (g : GG) (M : Mem) (m : Int) (C : CR M) (hm : rg m) (hst : g.1.stackTraces = false) : Ctx g yX8_freeze cX8_freeze 4 (some .int) 4 [rv g 0, iv m] M (pI (fun z M' => (0 ≤ m ∧ m ≤ 999) ∧ M 0 13 = 1000 ∧ z = cnt (fun r => m ≤ M (8 * r + 148) 6) (M 0 12) ∧ ∃ M1, FZ1 M m (M 0 12) M1 ∧ (∀ a k, ¬ (27 ≤ a ∧ a ≤ 40) → M' a k = M1 a k) ∧ BOK M' 27 0 ∧ BOK M' 34 1)) (fun E M' => (E = "java/lang/IllegalArgumentException" ∧ (¬ (0 ≤ m ∧ m ≤ 999)) ∧ M' = M) ∨ (E = "java/lang/UnsupportedOperationException" ∧ ((0 ≤ m ∧ m ≤ 999) ∧ M 0 13 ≠ 1000) ∧ M' = M)) := by
  refine ctx_of (by decide +kernel) (Nat.le_of_ble_eq_true rfl) ?_
  show Ok g mX8_freeze (rmX 4) (FX g (pI (fun z M' => (0 ≤ m ∧ m ≤ 999) ∧ M 0 13 = 1000 ∧ z = cnt (fun r => m ≤ M (8 * r + 148) 6) (M 0 12) ∧ ∃ M1, FZ1 M m (M 0 12) M1 ∧ (∀ a k, ¬ (27 ≤ a ∧ a ≤ 40) → M' a k = M1 a k) ∧ BOK M' 27 0 ∧ BOK M' 34 1)) (fun E M' => (E = "java/lang/IllegalArgumentException" ∧ (¬ (0 ≤ m ∧ m ≤ 999)) ∧ M' = M) ∨ (E = "java/lang/UnsupportedOperationException" ∧ ((0 ≤ m ∧ m ≤ 999) ∧ M 0 13 ≠ 1000) ∧ M' = M))) 0 [(0, rv g 0), (1, iv m)] [] M
  have c0 := C.1
  have hm1 := hm.1
  have hm2 := hm.2
  have h_46 : ∀ (n_46 : Nat) (M1 : Mem) (h : Int) (i : Int), ((0 ≤ m ∧ m ≤ 999) ∧ M 0 13 = 1000) → (0 ≤ i ∧ i ≤ M 0 12) → (FZ1 M m i M1) → (h = cnt (fun r => m ≤ M (8 * r + 148) 6) i) → (0 ≤ h ∧ h ≤ i) → (M 0 12 - i).toNat < n_46 → Ok g mX8_freeze (rmX 4) (FX g (pI (fun z M' => (0 ≤ m ∧ m ≤ 999) ∧ M 0 13 = 1000 ∧ z = cnt (fun r => m ≤ M (8 * r + 148) 6) (M 0 12) ∧ ∃ M1, FZ1 M m (M 0 12) M1 ∧ (∀ a k, ¬ (27 ≤ a ∧ a ≤ 40) → M' a k = M1 a k) ∧ BOK M' 27 0 ∧ BOK M' 34 1)) (fun E M' => (E = "java/lang/IllegalArgumentException" ∧ (¬ (0 ≤ m ∧ m ≤ 999)) ∧ M' = M) ∨ (E = "java/lang/UnsupportedOperationException" ∧ ((0 ≤ m ∧ m ≤ 999) ∧ M 0 13 ≠ 1000) ∧ M' = M))) 46 [(0, rv g 0), (1, iv m), (2, iv h), (3, iv i)] [] M1 := by
    intro n_46
    induction n_46 with
    | zero => intro M1 h i gd j0 j1 j2 j3 hn_46; exact absurd hn_46 (Nat.not_lt_zero _)
    | succ n_46 ih_46 =>
      intro M1 h i gd j0 j1 j2 j3 hn_46
      refine x_iload_n 3 dX8_freeze_46 rfl rfl ?_
      refine x_aload_n 0 dX8_freeze_47 rfl rfl ?_
      refine x_geti (k := 12) (kI := 12) dX8_freeze_48 fl8_76 k_0 rfl rfl (fun ⟨a1, a1'⟩ => ?_)
      have e2 : M1 0 12 = M 0 12 := (j1.rd (by omega) (by omega))
      simp only [e2] at a1 a1' ⊢
      refine x_icmp_ge (tgt := 107) dX8_freeze_51 (by decide) ⟨by omega, by omega⟩ ⟨by omega, by omega⟩ (fun c3 => ?_) (fun c3 => ?_)
      · rw [show i = M 0 12 by omega] at j1 j2
        refine x_aload_n 0 dX8_freeze_107 rfl rfl ?_
        refine x_callVV (as := []) (rest := []) dX8_freeze_108 vl8_154 k_0 (c_X8_recountBoards g M1 (j1.cr C (by omega) (by omega))) rfl rfl (Nat.le_of_ble_eq_true rfl) ⟨Nat.le_of_ble_eq_true rfl, Nat.le_of_ble_eq_true rfl⟩ (fun M6 h5 => ?_)
        have hr := h5
        refine x_iload_n 2 dX8_freeze_111 rfl rfl ?_
        refine x_toX ?_
        refine x_iret dX8_freeze_112 rfl rfl ?_
        exact ⟨_, rfl, gd.1, gd.2, j2, M1, j1, hr.1, hr.2.1, hr.2.2⟩
      · refine x_aload_n 0 dX8_freeze_54 rfl rfl ?_
        refine x_getr (k := 3) (d := 9) dX8_freeze_55 fl8_31 k_0 rfl (fun k7 => ?_)
        have k7 : isK 31 40 9 := k7
        show Ok g mX8_freeze (rmX 4) (FX g (pI (fun z M' => (0 ≤ m ∧ m ≤ 999) ∧ M 0 13 = 1000 ∧ z = cnt (fun r => m ≤ M (8 * r + 148) 6) (M 0 12) ∧ ∃ M1, FZ1 M m (M 0 12) M1 ∧ (∀ a k, ¬ (27 ≤ a ∧ a ≤ 40) → M' a k = M1 a k) ∧ BOK M' 27 0 ∧ BOK M' 34 1)) (fun E M' => (E = "java/lang/IllegalArgumentException" ∧ (¬ (0 ≤ m ∧ m ≤ 999)) ∧ M' = M) ∨ (E = "java/lang/UnsupportedOperationException" ∧ ((0 ≤ m ∧ m ≤ 999) ∧ M 0 13 ≠ 1000) ∧ M' = M))) 58 [(0, rv g 0), (1, iv m), (2, iv h), (3, iv i)] [rv g 9] M1
        refine x_iload_n 3 dX8_freeze_58 rfl rfl ?_
        refine x_aald31 dX8_freeze_59 k7 (by omega) (by omega) (by decide) (fun k8 => ?_)
        have ek8 : 9 + (139 + 8 * i) = 8 * i + 148 := by omega
        rw [ek8] at k8 ⊢
        refine x_aload_n 0 dX8_freeze_60 rfl rfl ?_
        refine x_getr (k := 3) (d := 9) dX8_freeze_61 fl8_31 k_0 rfl (fun k9 => ?_)
        have k9 : isK 31 40 9 := k9
        show Ok g mX8_freeze (rmX 4) (FX g (pI (fun z M' => (0 ≤ m ∧ m ≤ 999) ∧ M 0 13 = 1000 ∧ z = cnt (fun r => m ≤ M (8 * r + 148) 6) (M 0 12) ∧ ∃ M1, FZ1 M m (M 0 12) M1 ∧ (∀ a k, ¬ (27 ≤ a ∧ a ≤ 40) → M' a k = M1 a k) ∧ BOK M' 27 0 ∧ BOK M' 34 1)) (fun E M' => (E = "java/lang/IllegalArgumentException" ∧ (¬ (0 ≤ m ∧ m ≤ 999)) ∧ M' = M) ∨ (E = "java/lang/UnsupportedOperationException" ∧ ((0 ≤ m ∧ m ≤ 999) ∧ M 0 13 ≠ 1000) ∧ M' = M))) 64 [(0, rv g 0), (1, iv m), (2, iv h), (3, iv i)] [rv g 9, rv g (8 * i + 148)] M1
        refine x_iload_n 3 dX8_freeze_64 rfl rfl ?_
        refine x_aald31 dX8_freeze_65 k9 (by omega) (by omega) (by decide) (fun k10 => ?_)
        have ek10 : 9 + (139 + 8 * i) = 8 * i + 148 := by omega
        rw [ek10] at k10 ⊢
        refine x_geti (k := 6) (kI := 6) dX8_freeze_66 fl8_169 k10 rfl rfl (fun ⟨a11, a11'⟩ => ?_)
        have e12 : M1 (8 * i + 148) 6 = M (8 * i + 148) 6 := (j1.rd (by omega) (by omega))
        simp only [e12] at a11 a11' ⊢
        refine x_iload_n 1 dX8_freeze_69 rfl rfl ?_
        refine x_icmp_lt (tgt := 77) dX8_freeze_70 (by decide) ⟨by omega, by omega⟩ ⟨by omega, by omega⟩ (fun c13 => ?_) (fun c13 => ?_)
        · refine x_iconst (0) dX8_freeze_77 rfl ?_
          refine x_puti (k := 7) (kI := 7) dX8_freeze_78 fw8_172 k8 rfl ⟨by decide, by decide⟩ (iZ_bool (by omega)) (iZ_boolF (by omega)) rfl ?_
          refine x_iload_n 2 dX8_freeze_81 rfl rfl ?_
          refine x_aload_n 0 dX8_freeze_82 rfl rfl ?_
          refine x_getr (k := 3) (d := 9) dX8_freeze_83 fl8_31 k_0 rfl (fun k14 => ?_)
          have k14 : isK 31 40 9 := k14
          show Ok g mX8_freeze (rmX 4) (FX g (pI (fun z M' => (0 ≤ m ∧ m ≤ 999) ∧ M 0 13 = 1000 ∧ z = cnt (fun r => m ≤ M (8 * r + 148) 6) (M 0 12) ∧ ∃ M1, FZ1 M m (M 0 12) M1 ∧ (∀ a k, ¬ (27 ≤ a ∧ a ≤ 40) → M' a k = M1 a k) ∧ BOK M' 27 0 ∧ BOK M' 34 1)) (fun E M' => (E = "java/lang/IllegalArgumentException" ∧ (¬ (0 ≤ m ∧ m ≤ 999)) ∧ M' = M) ∨ (E = "java/lang/UnsupportedOperationException" ∧ ((0 ≤ m ∧ m ≤ 999) ∧ M 0 13 ≠ 1000) ∧ M' = M))) 86 [(0, rv g 0), (1, iv m), (2, iv h), (3, iv i)] [rv g 9, iv h] (up M1 (8 * i + 148) 7 0)
          refine x_iload_n 3 dX8_freeze_86 rfl rfl ?_
          refine x_aald31 dX8_freeze_87 k14 (by omega) (by omega) (by decide) (fun k15 => ?_)
          have ek15 : 9 + (139 + 8 * i) = 8 * i + 148 := by omega
          rw [ek15] at k15 ⊢
          refine x_geti (k := 7) (kI := 7) dX8_freeze_88 fl8_172 k15 rfl rfl (fun ⟨a16, a16'⟩ => ?_)
          have e17 : (up M1 (8 * i + 148) 7 0) (8 * i + 148) 7 = 0 := (by simp (disch := omega) only [up_s, up_o, up_k])
          simp only [e17] at a16 a16' ⊢
          refine x_if_eq (tgt := 98) dX8_freeze_91 (by decide) ⟨by decide, by decide⟩ (fun c18 => ?_) (fun c18 => ?_)
          · refine x_iconst (0) dX8_freeze_98 rfl ?_
            refine x_iadd dX8_freeze_99 ?_
            refine x_istore_n (lv' := [(2, iv (h + 0)), (0, rv g 0), (1, iv m), (3, iv i)]) dX8_freeze_100 rfl (Nat.le_of_ble_eq_true rfl) rfl ?_
            refine x_iinc (z := i) (lv' := [(3, iv (i + 1)), (2, iv (h + 0)), (0, rv g 0), (1, iv m)]) 3 dX8_freeze_101 rfl (Nat.le_of_ble_eq_true rfl) rfl ?_
            refine x_goto (tgt := 46) dX8_freeze_104 (by decide) ?_
            refine x_sub [2, 3, 1, 0] rfl ?_
            exact ih_46 _ _ _ (by exact gd) (by omega) (by obtain ⟨x1, x2, x3⟩ := j1; refine ⟨(up_o (by omega)).trans x1, fun o k h1 h2 => ?_, fun r r0 r1 => ?_⟩; rw [up_n (h2 i (by omega) (by omega))]; exact x2 o k h1 h2; by_cases e : r = i; rw [e, up_s, if_neg (by omega)]; rw [up_o (by omega)]; exact x3 r r0 (by omega)) (by rw [cnt_f (by omega) (by omega), ← j2]; omega) (by omega) (by omega)
          · exact absurd c18 (by decide)
        · refine x_iconst (1) dX8_freeze_73 rfl ?_
          refine x_goto (tgt := 78) dX8_freeze_74 (by decide) ?_
          refine x_puti (k := 7) (kI := 7) dX8_freeze_78 fw8_172 k8 rfl ⟨by decide, by decide⟩ (iZ_bool (by omega)) (iZ_boolF (by omega)) rfl ?_
          refine x_iload_n 2 dX8_freeze_81 rfl rfl ?_
          refine x_aload_n 0 dX8_freeze_82 rfl rfl ?_
          refine x_getr (k := 3) (d := 9) dX8_freeze_83 fl8_31 k_0 rfl (fun k19 => ?_)
          have k19 : isK 31 40 9 := k19
          show Ok g mX8_freeze (rmX 4) (FX g (pI (fun z M' => (0 ≤ m ∧ m ≤ 999) ∧ M 0 13 = 1000 ∧ z = cnt (fun r => m ≤ M (8 * r + 148) 6) (M 0 12) ∧ ∃ M1, FZ1 M m (M 0 12) M1 ∧ (∀ a k, ¬ (27 ≤ a ∧ a ≤ 40) → M' a k = M1 a k) ∧ BOK M' 27 0 ∧ BOK M' 34 1)) (fun E M' => (E = "java/lang/IllegalArgumentException" ∧ (¬ (0 ≤ m ∧ m ≤ 999)) ∧ M' = M) ∨ (E = "java/lang/UnsupportedOperationException" ∧ ((0 ≤ m ∧ m ≤ 999) ∧ M 0 13 ≠ 1000) ∧ M' = M))) 86 [(0, rv g 0), (1, iv m), (2, iv h), (3, iv i)] [rv g 9, iv h] (up M1 (8 * i + 148) 7 1)
          refine x_iload_n 3 dX8_freeze_86 rfl rfl ?_
          refine x_aald31 dX8_freeze_87 k19 (by omega) (by omega) (by decide) (fun k20 => ?_)
          have ek20 : 9 + (139 + 8 * i) = 8 * i + 148 := by omega
          rw [ek20] at k20 ⊢
          refine x_geti (k := 7) (kI := 7) dX8_freeze_88 fl8_172 k20 rfl rfl (fun ⟨a21, a21'⟩ => ?_)
          have e22 : (up M1 (8 * i + 148) 7 1) (8 * i + 148) 7 = 1 := (by simp (disch := omega) only [up_s, up_o, up_k])
          simp only [e22] at a21 a21' ⊢
          refine x_if_eq (tgt := 98) dX8_freeze_91 (by decide) ⟨by decide, by decide⟩ (fun c23 => ?_) (fun c23 => ?_)
          · exact absurd c23 (by decide)
          · refine x_iconst (1) dX8_freeze_94 rfl ?_
            refine x_goto (tgt := 99) dX8_freeze_95 (by decide) ?_
            refine x_iadd dX8_freeze_99 ?_
            refine x_istore_n (lv' := [(2, iv (h + 1)), (0, rv g 0), (1, iv m), (3, iv i)]) dX8_freeze_100 rfl (Nat.le_of_ble_eq_true rfl) rfl ?_
            refine x_iinc (z := i) (lv' := [(3, iv (i + 1)), (2, iv (h + 1)), (0, rv g 0), (1, iv m)]) 3 dX8_freeze_101 rfl (Nat.le_of_ble_eq_true rfl) rfl ?_
            refine x_goto (tgt := 46) dX8_freeze_104 (by decide) ?_
            refine x_sub [2, 3, 1, 0] rfl ?_
            exact ih_46 _ _ _ (by exact gd) (by omega) (by obtain ⟨x1, x2, x3⟩ := j1; refine ⟨(up_o (by omega)).trans x1, fun o k h1 h2 => ?_, fun r r0 r1 => ?_⟩; rw [up_n (h2 i (by omega) (by omega))]; exact x2 o k h1 h2; by_cases e : r = i; rw [e, up_s, if_pos (by omega)]; rw [up_o (by omega)]; exact x3 r r0 (by omega)) (by rw [cnt_t (by omega) (by omega), ← j2]) (by omega) (by omega)
  refine x_iload_n 1 dX8_freeze_0 rfl rfl ?_
  refine x_iconst (0) dX8_freeze_1 rfl ?_
  refine x_sipush (999) dX8_freeze_2 rfl ?_
  refine x_callSIP (as := [iv m, iv 0, iv 999]) (rest := []) dX8_freeze_5 sl8_120 (c_X8_isWithin g M m 0 999 ⟨by omega, by omega⟩ ⟨by omega, by omega⟩ ⟨by omega, by omega⟩) rfl rfl (Nat.le_of_ble_eq_true rfl) ⟨Nat.le_of_ble_eq_true rfl, Nat.le_of_ble_eq_true rfl⟩ (fun z24 h25 => ?_)
  refine x_if_ne (tgt := 19) dX8_freeze_8 (by decide) ⟨by omega, by omega⟩ (fun c27 => ?_) (fun c27 => ?_)
  · refine x_aload_n 0 dX8_freeze_19 rfl rfl ?_
    refine x_geti (k := 13) (kI := 13) dX8_freeze_20 fl8_79 k_0 rfl rfl (fun ⟨a28, a28'⟩ => ?_)
    refine x_sipush (1000) dX8_freeze_23 rfl ?_
    refine x_icmp_eq (tgt := 37) dX8_freeze_26 (by decide) ⟨by omega, by omega⟩ ⟨by decide, by decide⟩ (fun c29 => ?_) (fun c29 => ?_)
    · refine x_aload_n 0 dX8_freeze_37 rfl rfl ?_
      refine x_iload_n 1 dX8_freeze_38 rfl rfl ?_
      refine x_puti (k := 13) (kI := 13) dX8_freeze_39 fw8_79 k_0 rfl ⟨by omega, by omega⟩ rfl rfl rfl ?_
      refine x_iconst (0) dX8_freeze_42 rfl ?_
      refine x_istore_n (lv' := [(2, iv 0), (0, rv g 0), (1, iv m)]) dX8_freeze_43 rfl (Nat.le_of_ble_eq_true rfl) rfl ?_
      refine x_iconst (0) dX8_freeze_44 rfl ?_
      refine x_istore_n (lv' := [(3, iv 0), (2, iv 0), (0, rv g 0), (1, iv m)]) dX8_freeze_45 rfl (Nat.le_of_ble_eq_true rfl) rfl ?_
      refine x_sub [2, 3, 1, 0] rfl ?_
      exact h_46 _ _ _ _ (by omega) (by omega) (by refine ⟨up_s _ _ _ _, fun o k h1 h2 => up_n h1, fun r _ _ => by omega⟩) (by exact (cnt_0 _).symm) (by omega) (Nat.lt_succ_self _)
    · exact x_throw hst ex_260 dX8_freeze_29 dX8_freeze_32 dX8_freeze_33 dX8_freeze_36 (Nat.le_of_ble_eq_true rfl) (Nat.le_of_ble_eq_true rfl) (Nat.le_of_ble_eq_true rfl) (Nat.le_of_ble_eq_true rfl) (Or.inr (⟨rfl, ⟨by omega, by omega⟩, rfl⟩))
  · exact x_throw hst ex_88 dX8_freeze_11 dX8_freeze_14 dX8_freeze_15 dX8_freeze_18 (Nat.le_of_ble_eq_true rfl) (Nat.le_of_ble_eq_true rfl) (Nat.le_of_ble_eq_true rfl) (Nat.le_of_ble_eq_true rfl) (Or.inl ⟨rfl, by omega, rfl⟩)
