set_option maxHeartbeats 600000 in
set_option maxRecDepth 100000 in
theorem c_X8_submit (g : GG) (M : Mem) (t p mn : Int) (b : Int → BSt) (C : CR M) (ht : rg t) (hp : rg p) (hmn : rg mn) (h1 : PG M 1) (hN : ∀ p u, 0 ≤ p → p < M 0 10 → 0 ≤ u → u < M (20 * p + 48) 3 → NU M (20 * p + 3 * u + 50)) (hI : SI M (-1)) (hD : DKs M) (hb : ∀ c, 0 ≤ c → c < 4 → RAb M c (b c) ∧ QS 50000 (b c)) (hst : g.1.stackTraces = false) : Ctx g yX8_submit cX8_submit 5 (some .int) 6 [rv g 0, iv t, iv p, iv mn] M (pI (fun z M' => (((0 ≤ t ∧ t < M 0 11) ∧ 0 ≤ p ∧ p < M 0 10) ∧ (0 ≤ mn ∧ mn ≤ 999 ∧ (M 0 12 = 0 ∨ M (8 * M 0 12 + 140) 6 ≤ mn)) ∧ M 0 12 < 40) ∧ z = M 0 12 ∧ ∃ M2 M3, SBM M t p mn M2 ∧ JBA M2 (M 0 12) (M (20 * p + 48) 3) M3 ∧ CR M3 ∧ DKs M3 ∧ (∀ o k, ¬ (17 ≤ o ∧ o ≤ 40) → M' o k = M3 o k) ∧ BOK M' 27 0 ∧ BOK M' 34 1 ∧ RAb M' (M (20 * p + 48) 1) (fFo (fun u => M' 29 (5 * u + p) ≠ -1) p (M 0 11) (b (M (20 * p + 48) 1))) ∧ ∀ o k, 17 ≤ o → o ≤ 26 → o ≠ 18 → o ≠ M (20 * p + 48) 1 + 20 → ¬ (k = M (20 * p + 48) 1 ∧ 24 ≤ o) → ¬ (o = 17 ∧ k = 5) → M' o k = M o k)) (fun E M' => (E = "java/lang/IndexOutOfBoundsException" ∧ (¬ ((0 ≤ t ∧ t < M 0 11) ∧ 0 ≤ p ∧ p < M 0 10)) ∧ M' = M) ∨ (E = "java/lang/IllegalArgumentException" ∧ (((0 ≤ t ∧ t < M 0 11) ∧ 0 ≤ p ∧ p < M 0 10) ∧ ¬ (0 ≤ mn ∧ mn ≤ 999 ∧ (M 0 12 = 0 ∨ M (8 * M 0 12 + 140) 6 ≤ mn))) ∧ M' = M) ∨ (E = "java/lang/IllegalStateException" ∧ (((0 ≤ t ∧ t < M 0 11) ∧ 0 ≤ p ∧ p < M 0 10) ∧ (0 ≤ mn ∧ mn ≤ 999 ∧ (M 0 12 = 0 ∨ M (8 * M 0 12 + 140) 6 ≤ mn)) ∧ M 0 12 = 40) ∧ M' = M)) := by
  refine ctx_of (by decide +kernel) (Nat.le_of_ble_eq_true rfl) ?_
  show Ok g mX8_submit (rmX 6) (FX g (pI (fun z M' => (((0 ≤ t ∧ t < M 0 11) ∧ 0 ≤ p ∧ p < M 0 10) ∧ (0 ≤ mn ∧ mn ≤ 999 ∧ (M 0 12 = 0 ∨ M (8 * M 0 12 + 140) 6 ≤ mn)) ∧ M 0 12 < 40) ∧ z = M 0 12 ∧ ∃ M2 M3, SBM M t p mn M2 ∧ JBA M2 (M 0 12) (M (20 * p + 48) 3) M3 ∧ CR M3 ∧ DKs M3 ∧ (∀ o k, ¬ (17 ≤ o ∧ o ≤ 40) → M' o k = M3 o k) ∧ BOK M' 27 0 ∧ BOK M' 34 1 ∧ RAb M' (M (20 * p + 48) 1) (fFo (fun u => M' 29 (5 * u + p) ≠ -1) p (M 0 11) (b (M (20 * p + 48) 1))) ∧ ∀ o k, 17 ≤ o → o ≤ 26 → o ≠ 18 → o ≠ M (20 * p + 48) 1 + 20 → ¬ (k = M (20 * p + 48) 1 ∧ 24 ≤ o) → ¬ (o = 17 ∧ k = 5) → M' o k = M o k)) (fun E M' => (E = "java/lang/IndexOutOfBoundsException" ∧ (¬ ((0 ≤ t ∧ t < M 0 11) ∧ 0 ≤ p ∧ p < M 0 10)) ∧ M' = M) ∨ (E = "java/lang/IllegalArgumentException" ∧ (((0 ≤ t ∧ t < M 0 11) ∧ 0 ≤ p ∧ p < M 0 10) ∧ ¬ (0 ≤ mn ∧ mn ≤ 999 ∧ (M 0 12 = 0 ∨ M (8 * M 0 12 + 140) 6 ≤ mn))) ∧ M' = M) ∨ (E = "java/lang/IllegalStateException" ∧ (((0 ≤ t ∧ t < M 0 11) ∧ 0 ≤ p ∧ p < M 0 10) ∧ (0 ≤ mn ∧ mn ≤ 999 ∧ (M 0 12 = 0 ∨ M (8 * M 0 12 + 140) 6 ≤ mn)) ∧ M 0 12 = 40) ∧ M' = M))) 0 [(0, rv g 0), (1, iv t), (2, iv p), (3, iv mn)] [] M
  have c0 := C.1
  have ht1 := ht.1
  have ht2 := ht.2
  have hp1 := hp.1
  have hp2 := hp.2
  have hmn1 := hmn.1
  have hmn2 := hmn.2
  refine x_aload_n 0 dX8_submit_0 rfl rfl ?_
  refine x_iload_n 1 dX8_submit_1 rfl rfl ?_
  refine x_callVIP (as := [iv t]) (rest := []) dX8_submit_2 vl8_157 k_0 (c_X8_hasTeam g M t (by omega) ⟨by omega, by omega⟩) rfl rfl (Nat.le_of_ble_eq_true rfl) ⟨Nat.le_of_ble_eq_true rfl, Nat.le_of_ble_eq_true rfl⟩ (fun z1 h2 => ?_)
  refine x_if_eq (tgt := 16) dX8_submit_5 (by decide) ⟨by omega, by omega⟩ (fun c4 => ?_) (fun c4 => ?_)
  · exact x_throw hst ex_133 dX8_submit_16 dX8_submit_19 dX8_submit_20 dX8_submit_23 (Nat.le_of_ble_eq_true rfl) (Nat.le_of_ble_eq_true rfl) (Nat.le_of_ble_eq_true rfl) (Nat.le_of_ble_eq_true rfl) (Or.inl ⟨rfl, by omega, rfl⟩)
  · refine x_aload_n 0 dX8_submit_8 rfl rfl ?_
    refine x_iload_n 2 dX8_submit_9 rfl rfl ?_
    refine x_callVIP (as := [iv p]) (rest := []) dX8_submit_10 vl8_130 k_0 (c_X8_hasProblem g M p (by omega) ⟨by omega, by omega⟩) rfl rfl (Nat.le_of_ble_eq_true rfl) ⟨Nat.le_of_ble_eq_true rfl, Nat.le_of_ble_eq_true rfl⟩ (fun z5 h6 => ?_)
    refine x_if_ne (tgt := 24) dX8_submit_13 (by decide) ⟨by omega, by omega⟩ (fun c8 => ?_) (fun c8 => ?_)
    · have cp := C.prob p (by omega) (by omega)
      have hb9 := hb (M (20 * p + 48) 1) (by omega) (by omega)
      refine x_iload_n 3 dX8_submit_24 rfl rfl ?_
      refine x_aload_n 0 dX8_submit_25 rfl rfl ?_
      refine x_callVIP (as := []) (rest := [iv mn]) dX8_submit_26 vl8_160 k_0 (c_X8_lastMinute g M C) rfl rfl (Nat.le_of_ble_eq_true rfl) ⟨Nat.le_of_ble_eq_true rfl, Nat.le_of_ble_eq_true rfl⟩ (fun z9 h10 => ?_)
      have hm := h10
      have hmr : 0 ≤ z9 ∧ z9 ≤ 999 := by
        rcases hm with ⟨_, e⟩ | ⟨e2, e⟩
        · omega
        · have c := C.run (M 0 12 - 1) (by omega) (by omega)
          rw [show 8 * (M 0 12 - 1) + 148 = 8 * M 0 12 + 140 by omega] at c
          omega
      refine x_sipush (999) dX8_submit_29 rfl ?_
      refine x_callSIP (as := [iv mn, iv z9, iv 999]) (rest := []) dX8_submit_32 sl8_120 (c_X8_isWithin g M mn z9 999 ⟨by omega, by omega⟩ ⟨by omega, by omega⟩ ⟨by omega, by omega⟩) rfl rfl (Nat.le_of_ble_eq_true rfl) ⟨Nat.le_of_ble_eq_true rfl, Nat.le_of_ble_eq_true rfl⟩ (fun z12 h13 => ?_)
      refine x_if_ne (tgt := 46) dX8_submit_35 (by decide) ⟨by omega, by omega⟩ (fun c15 => ?_) (fun c15 => ?_)
      · refine x_aload_n 0 dX8_submit_46 rfl rfl ?_
        refine x_geti (k := 12) (kI := 12) dX8_submit_47 fl8_76 k_0 rfl rfl (fun ⟨a16, a16'⟩ => ?_)
        refine x_bipush (40) dX8_submit_50 rfl ?_
        refine x_icmp_lt (tgt := 63) dX8_submit_52 (by decide) ⟨by omega, by omega⟩ ⟨by decide, by decide⟩ (fun c17 => ?_) (fun c17 => ?_)
        · refine x_aload_n 0 dX8_submit_63 rfl rfl ?_
          refine x_getr (k := 3) (d := 9) dX8_submit_64 fl8_31 k_0 rfl (fun k18 => ?_)
          have k18 : isK 31 40 9 := k18
          show Ok g mX8_submit (rmX 6) (FX g (pI (fun z M' => (((0 ≤ t ∧ t < M 0 11) ∧ 0 ≤ p ∧ p < M 0 10) ∧ (0 ≤ mn ∧ mn ≤ 999 ∧ (M 0 12 = 0 ∨ M (8 * M 0 12 + 140) 6 ≤ mn)) ∧ M 0 12 < 40) ∧ z = M 0 12 ∧ ∃ M2 M3, SBM M t p mn M2 ∧ JBA M2 (M 0 12) (M (20 * p + 48) 3) M3 ∧ CR M3 ∧ DKs M3 ∧ (∀ o k, ¬ (17 ≤ o ∧ o ≤ 40) → M' o k = M3 o k) ∧ BOK M' 27 0 ∧ BOK M' 34 1 ∧ RAb M' (M (20 * p + 48) 1) (fFo (fun u => M' 29 (5 * u + p) ≠ -1) p (M 0 11) (b (M (20 * p + 48) 1))) ∧ ∀ o k, 17 ≤ o → o ≤ 26 → o ≠ 18 → o ≠ M (20 * p + 48) 1 + 20 → ¬ (k = M (20 * p + 48) 1 ∧ 24 ≤ o) → ¬ (o = 17 ∧ k = 5) → M' o k = M o k)) (fun E M' => (E = "java/lang/IndexOutOfBoundsException" ∧ (¬ ((0 ≤ t ∧ t < M 0 11) ∧ 0 ≤ p ∧ p < M 0 10)) ∧ M' = M) ∨ (E = "java/lang/IllegalArgumentException" ∧ (((0 ≤ t ∧ t < M 0 11) ∧ 0 ≤ p ∧ p < M 0 10) ∧ ¬ (0 ≤ mn ∧ mn ≤ 999 ∧ (M 0 12 = 0 ∨ M (8 * M 0 12 + 140) 6 ≤ mn))) ∧ M' = M) ∨ (E = "java/lang/IllegalStateException" ∧ (((0 ≤ t ∧ t < M 0 11) ∧ 0 ≤ p ∧ p < M 0 10) ∧ (0 ≤ mn ∧ mn ≤ 999 ∧ (M 0 12 = 0 ∨ M (8 * M 0 12 + 140) 6 ≤ mn)) ∧ M 0 12 = 40) ∧ M' = M))) 67 [(0, rv g 0), (1, iv t), (2, iv p), (3, iv mn)] [rv g 9] M
          refine x_aload_n 0 dX8_submit_67 rfl rfl ?_
          refine x_geti (k := 12) (kI := 12) dX8_submit_68 fl8_76 k_0 rfl rfl (fun ⟨a19, a19'⟩ => ?_)
          refine x_aald31 dX8_submit_71 k18 (by omega) (by omega) (by decide) (fun k20 => ?_)
          have ek20 : 9 + (139 + 8 * (M 0 12)) = 8 * M 0 12 + 148 := by omega
          rw [ek20] at k20 ⊢
          refine x_astore (lv' := [(4, rv g (8 * M 0 12 + 148)), (0, rv g 0), (1, iv t), (2, iv p), (3, iv mn)]) dX8_submit_72 (Nat.le_of_ble_eq_true rfl) rfl ?_
          refine x_aload_n 1 dX8_submit_74 rfl rfl ?_
          refine x_dup dX8_submit_75 rfl ?_
          refine x_geti (k := 12) (kI := 12) dX8_submit_76 fl8_76 k_0 rfl rfl (fun ⟨a21, a21'⟩ => ?_)
          refine x_iconst (1) dX8_submit_79 rfl ?_
          refine x_iadd dX8_submit_80 ?_
          refine x_puti (k := 12) (kI := 12) dX8_submit_81 fw8_76 k_0 rfl ⟨by omega, by omega⟩ rfl rfl rfl ?_
          refine x_aload 0 dX8_submit_84 rfl ?_
          refine x_iload_n 2 dX8_submit_86 rfl rfl ?_
          refine x_puti (k := 4) (kI := 4) dX8_submit_87 fw8_163 k20 rfl ⟨by omega, by omega⟩ rfl rfl rfl ?_
          refine x_aload 0 dX8_submit_90 rfl ?_
          refine x_iload_n 3 dX8_submit_92 rfl rfl ?_
          refine x_puti (k := 5) (kI := 5) dX8_submit_93 fw8_166 k20 rfl ⟨by omega, by omega⟩ rfl rfl rfl ?_
          refine x_aload 0 dX8_submit_96 rfl ?_
          refine x_iload_n 4 dX8_submit_98 rfl rfl ?_
          refine x_puti (k := 6) (kI := 6) dX8_submit_99 fw8_169 k20 rfl ⟨by omega, by omega⟩ rfl rfl rfl ?_
          refine x_aload 0 dX8_submit_102 rfl ?_
          refine x_iload_n 4 dX8_submit_104 rfl rfl ?_
          refine x_aload_n 1 dX8_submit_105 rfl rfl ?_
          refine x_geti (k := 13) (kI := 13) dX8_submit_106 fl8_79 k_0 rfl rfl (fun ⟨a22, a22'⟩ => ?_)
          have e23 : (up (up (up (up M 0 12 ((M 0 12) + 1)) (8 * M 0 12 + 148) 4 t) (8 * M 0 12 + 148) 5 p) (8 * M 0 12 + 148) 6 mn) 0 13 = M 0 13 := (by simp (disch := omega) only [up_s, up_o, up_k])
          simp only [e23] at a22 a22' ⊢
          refine x_icmp_lt (tgt := 116) dX8_submit_109 (by decide) ⟨by omega, by omega⟩ ⟨by omega, by omega⟩ (fun c24 => ?_) (fun c24 => ?_)
          · refine x_iconst (0) dX8_submit_116 rfl ?_
            refine x_puti (k := 7) (kI := 7) dX8_submit_117 fw8_172 k20 rfl ⟨by decide, by decide⟩ (iZ_bool (by omega)) (iZ_boolF (by omega)) rfl ?_
            refine x_aload 0 dX8_submit_120 rfl ?_
            refine x_getr (k := 0) (d := 1) dX8_submit_122 fl8_176 k20 rfl (fun k25 => ?_)
            have ek25 : (8 * M 0 12 + 148 + 1 : Int) = 8 * M 0 12 + 149 := by omega
            rw [ek25] at k25 ⊢
            refine x_aload_n 1 dX8_submit_125 rfl rfl ?_
            refine x_getr (k := 0) (d := 1) dX8_submit_126 fl8_12 k_0 rfl (fun k26 => ?_)
            have k26 : isK 5 4 1 := k26
            show Ok g mX8_submit (rmX 6) (FX g (pI (fun z M' => (((0 ≤ t ∧ t < M 0 11) ∧ 0 ≤ p ∧ p < M 0 10) ∧ (0 ≤ mn ∧ mn ≤ 999 ∧ (M 0 12 = 0 ∨ M (8 * M 0 12 + 140) 6 ≤ mn)) ∧ M 0 12 < 40) ∧ z = M 0 12 ∧ ∃ M2 M3, SBM M t p mn M2 ∧ JBA M2 (M 0 12) (M (20 * p + 48) 3) M3 ∧ CR M3 ∧ DKs M3 ∧ (∀ o k, ¬ (17 ≤ o ∧ o ≤ 40) → M' o k = M3 o k) ∧ BOK M' 27 0 ∧ BOK M' 34 1 ∧ RAb M' (M (20 * p + 48) 1) (fFo (fun u => M' 29 (5 * u + p) ≠ -1) p (M 0 11) (b (M (20 * p + 48) 1))) ∧ ∀ o k, 17 ≤ o → o ≤ 26 → o ≠ 18 → o ≠ M (20 * p + 48) 1 + 20 → ¬ (k = M (20 * p + 48) 1 ∧ 24 ≤ o) → ¬ (o = 17 ∧ k = 5) → M' o k = M o k)) (fun E M' => (E = "java/lang/IndexOutOfBoundsException" ∧ (¬ ((0 ≤ t ∧ t < M 0 11) ∧ 0 ≤ p ∧ p < M 0 10)) ∧ M' = M) ∨ (E = "java/lang/IllegalArgumentException" ∧ (((0 ≤ t ∧ t < M 0 11) ∧ 0 ≤ p ∧ p < M 0 10) ∧ ¬ (0 ≤ mn ∧ mn ≤ 999 ∧ (M 0 12 = 0 ∨ M (8 * M 0 12 + 140) 6 ≤ mn))) ∧ M' = M) ∨ (E = "java/lang/IllegalStateException" ∧ (((0 ≤ t ∧ t < M 0 11) ∧ 0 ≤ p ∧ p < M 0 10) ∧ (0 ≤ mn ∧ mn ≤ 999 ∧ (M 0 12 = 0 ∨ M (8 * M 0 12 + 140) 6 ≤ mn)) ∧ M 0 12 = 40) ∧ M' = M))) 129 [(4, rv g (8 * M 0 12 + 148)), (0, rv g 0), (1, iv t), (2, iv p), (3, iv mn)] [rv g 1, rv g (8 * M 0 12 + 149)] (up (up (up (up (up M 0 12 ((M 0 12) + 1)) (8 * M 0 12 + 148) 4 t) (8 * M 0 12 + 148) 5 p) (8 * M 0 12 + 148) 6 mn) (8 * M 0 12 + 148) 7 0)
            refine x_callVV (as := [rv g 1]) (rest := []) dX8_submit_129 vl8_179 k25 (c_X5_copyFrom g (up (up (up (up (up M 0 12 ((M 0 12) + 1)) (8 * M 0 12 + 148) 4 t) (8 * M 0 12 + 148) 5 p) (8 * M 0 12 + 148) 6 mn) (8 * M 0 12 + 148) 7 0) (8 * M 0 12 + 149) 1 k25 k_1 (by omega) (by simp (disch := omega) only [up_o]; exact ⟨h1.2.1, h1.2.2.1⟩) (fun j j0 j1 => by simp (disch := omega) only [up_o] at j1 ⊢; have h9 := h1.2.2.2.2 j j0 j1; unfold SOK at h9; rw [show (1 : Int) + 1 = 2 by omega] at h9 ⊢; omega)) rfl rfl (Nat.le_of_ble_eq_true rfl) ⟨Nat.le_of_ble_eq_true rfl, Nat.le_of_ble_eq_true rfl⟩ (fun M29 h28 => ?_)
            have hx := h28
            rw [show ((8 * M 0 12 + 149) : Int) = 8 * M 0 12 + 149 by omega] at hx
            have hS : SBM M t p mn M29 := by
              obtain ⟨x1, x2, x3⟩ := hx
              simp (disch := omega) only [up_o] at x2 x3
              refine ⟨fun o k h1 h2 => ?_, ?_, ?_, ?_, ?_, ?_, x2, fun j j0 j1 => ?_⟩
              · rw [x1 o k (by omega), up_n (by omega), up_n (by omega), up_n (by omega), up_n (by omega), up_n (by omega)]
              · rw [x1 _ _ (by omega)]; simp (disch := omega) only [up_o, up_k, up_s]
              · rw [x1 _ _ (by omega)]; simp (disch := omega) only [up_o, up_k, up_s]
              · rw [x1 _ _ (by omega)]; simp (disch := omega) only [up_o, up_k, up_s]
              · rw [x1 _ _ (by omega)]; simp (disch := omega) only [up_o, up_k, up_s]
              · rw [x1 _ _ (by omega), up_s]; first | rw [if_pos (by omega)] | rw [if_neg (by omega)]
              · have h9 := x3 j j0 j1
                rw [show 8 * M 0 12 + 149 + 1 = 8 * M 0 12 + 150 by omega, show 8 * M 0 12 + 149 + 2 = 8 * M 0 12 + 151 by omega, show 8 * M 0 12 + 149 + 3 = 8 * M 0 12 + 152 by omega] at h9
                exact h9
            refine x_aload_n 1 dX8_submit_132 rfl rfl ?_
            refine x_aload 0 dX8_submit_133 rfl ?_
            refine x_callVV (as := [rv g (8 * M 0 12 + 148)]) (rest := []) dX8_submit_135 vl8_182 k_0 (c_X8_judgeByAll g M29 (M 0 12) p (M (20 * p + 48) 3) (by omega) (by omega) hS.2.2.2.1 (by omega) (by omega) (hS.1 _ _ (by omega) (by omega)) (by omega) (hS.pg (by omega) (by omega) h1) (fun u u0 u1 => (hN p u (by omega) (by omega) u0 u1).cong (fun o k h => hS.1 o k (by omega) (by omega))) (by rw [hS.1 (20 * p + 48) 2 (by omega) (by omega)]; omega) (hS.si (by omega) hI)) rfl rfl (Nat.le_of_ble_eq_true rfl) ⟨Nat.le_of_ble_eq_true rfl, Nat.le_of_ble_eq_true rfl⟩ (fun M32 h31 => ?_)
            have hJ := h31
            have C3 := hS.cr C hJ (by omega) (by omega) (by omega) (by omega) (by omega) (by omega) (by omega)
            have D3 := hS.dks C (by omega) (by omega) hD hJ (by omega)
            refine x_aload_n 1 dX8_submit_138 rfl rfl ?_
            refine x_callVV (as := []) (rest := []) dX8_submit_139 vl8_154 k_0 (c_X8_recountBoards g M32 C3) rfl rfl (Nat.le_of_ble_eq_true rfl) ⟨Nat.le_of_ble_eq_true rfl, Nat.le_of_ble_eq_true rfl⟩ (fun M35 h34 => ?_)
            have hr := h34
            refine x_aload_n 1 dX8_submit_142 rfl rfl ?_
            refine x_getr (k := 6) (d := 17) dX8_submit_143 fl8_52 k_0 rfl (fun k36 => ?_)
            have k36 : isK 0 6 17 := k36
            show Ok g mX8_submit (rmX 6) (FX g (pI (fun z M' => (((0 ≤ t ∧ t < M 0 11) ∧ 0 ≤ p ∧ p < M 0 10) ∧ (0 ≤ mn ∧ mn ≤ 999 ∧ (M 0 12 = 0 ∨ M (8 * M 0 12 + 140) 6 ≤ mn)) ∧ M 0 12 < 40) ∧ z = M 0 12 ∧ ∃ M2 M3, SBM M t p mn M2 ∧ JBA M2 (M 0 12) (M (20 * p + 48) 3) M3 ∧ CR M3 ∧ DKs M3 ∧ (∀ o k, ¬ (17 ≤ o ∧ o ≤ 40) → M' o k = M3 o k) ∧ BOK M' 27 0 ∧ BOK M' 34 1 ∧ RAb M' (M (20 * p + 48) 1) (fFo (fun u => M' 29 (5 * u + p) ≠ -1) p (M 0 11) (b (M (20 * p + 48) 1))) ∧ ∀ o k, 17 ≤ o → o ≤ 26 → o ≠ 18 → o ≠ M (20 * p + 48) 1 + 20 → ¬ (k = M (20 * p + 48) 1 ∧ 24 ≤ o) → ¬ (o = 17 ∧ k = 5) → M' o k = M o k)) (fun E M' => (E = "java/lang/IndexOutOfBoundsException" ∧ (¬ ((0 ≤ t ∧ t < M 0 11) ∧ 0 ≤ p ∧ p < M 0 10)) ∧ M' = M) ∨ (E = "java/lang/IllegalArgumentException" ∧ (((0 ≤ t ∧ t < M 0 11) ∧ 0 ≤ p ∧ p < M 0 10) ∧ ¬ (0 ≤ mn ∧ mn ≤ 999 ∧ (M 0 12 = 0 ∨ M (8 * M 0 12 + 140) 6 ≤ mn))) ∧ M' = M) ∨ (E = "java/lang/IllegalStateException" ∧ (((0 ≤ t ∧ t < M 0 11) ∧ 0 ≤ p ∧ p < M 0 10) ∧ (0 ≤ mn ∧ mn ≤ 999 ∧ (M 0 12 = 0 ∨ M (8 * M 0 12 + 140) 6 ≤ mn)) ∧ M 0 12 = 40) ∧ M' = M))) 146 [(4, rv g (8 * M 0 12 + 148)), (0, rv g 0), (1, iv t), (2, iv p), (3, iv mn)] [rv g 17] M35
            refine x_aload_n 1 dX8_submit_146 rfl rfl ?_
            refine x_getr (k := 7) (d := 27) dX8_submit_147 fl8_59 k_0 rfl (fun k37 => ?_)
            have k37 : isK 1 7 27 := k37
            show Ok g mX8_submit (rmX 6) (FX g (pI (fun z M' => (((0 ≤ t ∧ t < M 0 11) ∧ 0 ≤ p ∧ p < M 0 10) ∧ (0 ≤ mn ∧ mn ≤ 999 ∧ (M 0 12 = 0 ∨ M (8 * M 0 12 + 140) 6 ≤ mn)) ∧ M 0 12 < 40) ∧ z = M 0 12 ∧ ∃ M2 M3, SBM M t p mn M2 ∧ JBA M2 (M 0 12) (M (20 * p + 48) 3) M3 ∧ CR M3 ∧ DKs M3 ∧ (∀ o k, ¬ (17 ≤ o ∧ o ≤ 40) → M' o k = M3 o k) ∧ BOK M' 27 0 ∧ BOK M' 34 1 ∧ RAb M' (M (20 * p + 48) 1) (fFo (fun u => M' 29 (5 * u + p) ≠ -1) p (M 0 11) (b (M (20 * p + 48) 1))) ∧ ∀ o k, 17 ≤ o → o ≤ 26 → o ≠ 18 → o ≠ M (20 * p + 48) 1 + 20 → ¬ (k = M (20 * p + 48) 1 ∧ 24 ≤ o) → ¬ (o = 17 ∧ k = 5) → M' o k = M o k)) (fun E M' => (E = "java/lang/IndexOutOfBoundsException" ∧ (¬ ((0 ≤ t ∧ t < M 0 11) ∧ 0 ≤ p ∧ p < M 0 10)) ∧ M' = M) ∨ (E = "java/lang/IllegalArgumentException" ∧ (((0 ≤ t ∧ t < M 0 11) ∧ 0 ≤ p ∧ p < M 0 10) ∧ ¬ (0 ≤ mn ∧ mn ≤ 999 ∧ (M 0 12 = 0 ∨ M (8 * M 0 12 + 140) 6 ≤ mn))) ∧ M' = M) ∨ (E = "java/lang/IllegalStateException" ∧ (((0 ≤ t ∧ t < M 0 11) ∧ 0 ≤ p ∧ p < M 0 10) ∧ (0 ≤ mn ∧ mn ≤ 999 ∧ (M 0 12 = 0 ∨ M (8 * M 0 12 + 140) 6 ≤ mn)) ∧ M 0 12 = 40) ∧ M' = M))) 150 [(4, rv g (8 * M 0 12 + 148)), (0, rv g 0), (1, iv t), (2, iv p), (3, iv mn)] [rv g 27, rv g 17] M35
            refine x_iload_n 3 dX8_submit_150 rfl rfl ?_
            refine x_aload_n 1 dX8_submit_151 rfl rfl ?_
            refine x_getr (k := 2) (d := 8) dX8_submit_152 fl8_25 k_0 rfl (fun k38 => ?_)
            have k38 : isK 30 5 8 := k38
            show Ok g mX8_submit (rmX 6) (FX g (pI (fun z M' => (((0 ≤ t ∧ t < M 0 11) ∧ 0 ≤ p ∧ p < M 0 10) ∧ (0 ≤ mn ∧ mn ≤ 999 ∧ (M 0 12 = 0 ∨ M (8 * M 0 12 + 140) 6 ≤ mn)) ∧ M 0 12 < 40) ∧ z = M 0 12 ∧ ∃ M2 M3, SBM M t p mn M2 ∧ JBA M2 (M 0 12) (M (20 * p + 48) 3) M3 ∧ CR M3 ∧ DKs M3 ∧ (∀ o k, ¬ (17 ≤ o ∧ o ≤ 40) → M' o k = M3 o k) ∧ BOK M' 27 0 ∧ BOK M' 34 1 ∧ RAb M' (M (20 * p + 48) 1) (fFo (fun u => M' 29 (5 * u + p) ≠ -1) p (M 0 11) (b (M (20 * p + 48) 1))) ∧ ∀ o k, 17 ≤ o → o ≤ 26 → o ≠ 18 → o ≠ M (20 * p + 48) 1 + 20 → ¬ (k = M (20 * p + 48) 1 ∧ 24 ≤ o) → ¬ (o = 17 ∧ k = 5) → M' o k = M o k)) (fun E M' => (E = "java/lang/IndexOutOfBoundsException" ∧ (¬ ((0 ≤ t ∧ t < M 0 11) ∧ 0 ≤ p ∧ p < M 0 10)) ∧ M' = M) ∨ (E = "java/lang/IllegalArgumentException" ∧ (((0 ≤ t ∧ t < M 0 11) ∧ 0 ≤ p ∧ p < M 0 10) ∧ ¬ (0 ≤ mn ∧ mn ≤ 999 ∧ (M 0 12 = 0 ∨ M (8 * M 0 12 + 140) 6 ≤ mn))) ∧ M' = M) ∨ (E = "java/lang/IllegalStateException" ∧ (((0 ≤ t ∧ t < M 0 11) ∧ 0 ≤ p ∧ p < M 0 10) ∧ (0 ≤ mn ∧ mn ≤ 999 ∧ (M 0 12 = 0 ∨ M (8 * M 0 12 + 140) 6 ≤ mn)) ∧ M 0 12 = 40) ∧ M' = M))) 155 [(4, rv g (8 * M 0 12 + 148)), (0, rv g 0), (1, iv t), (2, iv p), (3, iv mn)] [rv g 8, iv p, rv g 27, rv g 17] M35
            refine x_iload_n 3 dX8_submit_155 rfl rfl ?_
            refine x_aald30 dX8_submit_156 k38 (by omega) (by omega) (by decide) (fun k39 => ?_)
            have ek39 : 8 + (40 + 20 * p) = 20 * p + 48 := by omega
            rw [ek39] at k39 ⊢
            refine x_geti (k := 1) (kI := 1) dX8_submit_157 fl8_124 k39 rfl rfl (fun ⟨a40, a40'⟩ => ?_)
            have e41 : M35 (20 * p + 48) 1 = M (20 * p + 48) 1 := ((hr.1 _ _ (by omega)).trans ((hJ.1 _ _ (by omega) (by omega) (by omega)).trans (hS.1 _ _ (by omega) (by omega))))
            simp only [e41] at a40 a40' ⊢
            refine x_callVV (as := [rv g 27, iv p, iv (M (20 * p + 48) 1)]) (rest := []) dX8_submit_160 vl8_186 k36 (c_X0_follow g M35 27 p (M (20 * p + 48) 1) (M 0 11) (b (M (20 * p + 48) 1)) (by omega) (by omega) k_27 (by omega) (by rw [hr.2.1.1, hr.1 0 11 (by omega), hJ.1 0 11 (by omega) (by omega) (by omega), hS.1 0 11 (by omega) (by omega)]) (by omega) (hb9.1.cong (by omega) (by omega) (fun a k h => (hr.1 a k (by omega)).trans ((hJ.1 a k (by omega) (by omega) (by omega)).trans (hS.1 a k (by omega) (by omega))))) hb9.2) rfl rfl (Nat.le_of_ble_eq_true rfl) ⟨Nat.le_of_ble_eq_true rfl, Nat.le_of_ble_eq_true rfl⟩ (fun M44 h43 => ?_)
            have hf := h43
            have hs9 : (fun u => M44 29 (5 * u + p) ≠ -1) = (fun u => M35 (27 + 2) (5 * u + p) ≠ -1) := by
              funext u
              rw [show (27 : Int) + 2 = 29 by omega, hf.1 29 _ (by omega) (by omega) (by omega) (by omega)]
            have hn12 : M44 0 12 = M 0 12 + 1 := by rw [hf.1 0 12 (by omega) (by omega) (by omega) (by omega), hr.1 0 12 (by omega), hJ.1 0 12 (by omega) (by omega) (by omega)]; exact hS.2.1
            have e12 : 0 ≤ M35 0 12 := by rw [hr.1 0 12 (by omega), hJ.1 0 12 (by omega) (by omega) (by omega), hS.2.1]; omega
            have z1 := fun (o k : Int) (h : ¬ (17 ≤ o ∧ o ≤ 40)) => (hf.1 o k (by omega) (by omega) (by omega) (by omega)).trans (hr.1 o k (by omega))
            have z2 : BOK M44 27 0 := hr.2.1.cong e12 (fun a k h => hf.1 a k (by omega) (by omega) (by omega) (by omega)) (RSM.of (fun a k h => hf.1 a k (by omega) (by omega) (by omega) (by omega)))
            have z3 : BOK M44 34 1 := hr.2.2.cong e12 (fun a k h => hf.1 a k (by omega) (by omega) (by omega) (by omega)) (RSM.of (fun a k h => hf.1 a k (by omega) (by omega) (by omega) (by omega)))
            have z4 : RAb M44 (M (20 * p + 48) 1) (fFo (fun u => M44 29 (5 * u + p) ≠ -1) p (M 0 11) (b (M (20 * p + 48) 1))) := by
              rw [hs9]
              exact hf.2
            have z5 : ∀ o k, 17 ≤ o → o ≤ 26 → o ≠ 18 → o ≠ M (20 * p + 48) 1 + 20 → ¬ (k = M (20 * p + 48) 1 ∧ 24 ≤ o) → ¬ (o = 17 ∧ k = 5) → M44 o k = M o k := fun o k h1 h2 h3 h4 h5 h6 => (hf.1 o k h3 h4 (by omega) h6).trans ((hr.1 o k (by omega)).trans ((hJ.1 o k (by omega) (by omega) (by omega)).trans (hS.1 o k (by omega) (by omega))))
            refine x_aload_n 1 dX8_submit_163 rfl rfl ?_
            refine x_geti (k := 12) (kI := 12) dX8_submit_164 fl8_76 k_0 rfl rfl (fun ⟨a45, a45'⟩ => ?_)
            have e46 : M44 0 12 = M 0 12 + 1 := hn12
            simp only [e46] at a45 a45' ⊢
            refine x_iconst (1) dX8_submit_167 rfl ?_
            refine x_isub dX8_submit_168 ?_
            refine x_toX ?_
            refine x_iret dX8_submit_169 rfl rfl ?_
            exact ⟨_, rfl, ⟨by omega, by omega, by omega⟩, by omega, _, _, hS, hJ, C3, D3, z1, z2, z3, z4, z5⟩
          · refine x_iconst (1) dX8_submit_112 rfl ?_
            refine x_goto (tgt := 117) dX8_submit_113 (by decide) ?_
            refine x_puti (k := 7) (kI := 7) dX8_submit_117 fw8_172 k20 rfl ⟨by decide, by decide⟩ (iZ_bool (by omega)) (iZ_boolF (by omega)) rfl ?_
            refine x_aload 0 dX8_submit_120 rfl ?_
            refine x_getr (k := 0) (d := 1) dX8_submit_122 fl8_176 k20 rfl (fun k47 => ?_)
            have ek47 : (8 * M 0 12 + 148 + 1 : Int) = 8 * M 0 12 + 149 := by omega
            rw [ek47] at k47 ⊢
            refine x_aload_n 1 dX8_submit_125 rfl rfl ?_
            refine x_getr (k := 0) (d := 1) dX8_submit_126 fl8_12 k_0 rfl (fun k48 => ?_)
            have k48 : isK 5 4 1 := k48
            show Ok g mX8_submit (rmX 6) (FX g (pI (fun z M' => (((0 ≤ t ∧ t < M 0 11) ∧ 0 ≤ p ∧ p < M 0 10) ∧ (0 ≤ mn ∧ mn ≤ 999 ∧ (M 0 12 = 0 ∨ M (8 * M 0 12 + 140) 6 ≤ mn)) ∧ M 0 12 < 40) ∧ z = M 0 12 ∧ ∃ M2 M3, SBM M t p mn M2 ∧ JBA M2 (M 0 12) (M (20 * p + 48) 3) M3 ∧ CR M3 ∧ DKs M3 ∧ (∀ o k, ¬ (17 ≤ o ∧ o ≤ 40) → M' o k = M3 o k) ∧ BOK M' 27 0 ∧ BOK M' 34 1 ∧ RAb M' (M (20 * p + 48) 1) (fFo (fun u => M' 29 (5 * u + p) ≠ -1) p (M 0 11) (b (M (20 * p + 48) 1))) ∧ ∀ o k, 17 ≤ o → o ≤ 26 → o ≠ 18 → o ≠ M (20 * p + 48) 1 + 20 → ¬ (k = M (20 * p + 48) 1 ∧ 24 ≤ o) → ¬ (o = 17 ∧ k = 5) → M' o k = M o k)) (fun E M' => (E = "java/lang/IndexOutOfBoundsException" ∧ (¬ ((0 ≤ t ∧ t < M 0 11) ∧ 0 ≤ p ∧ p < M 0 10)) ∧ M' = M) ∨ (E = "java/lang/IllegalArgumentException" ∧ (((0 ≤ t ∧ t < M 0 11) ∧ 0 ≤ p ∧ p < M 0 10) ∧ ¬ (0 ≤ mn ∧ mn ≤ 999 ∧ (M 0 12 = 0 ∨ M (8 * M 0 12 + 140) 6 ≤ mn))) ∧ M' = M) ∨ (E = "java/lang/IllegalStateException" ∧ (((0 ≤ t ∧ t < M 0 11) ∧ 0 ≤ p ∧ p < M 0 10) ∧ (0 ≤ mn ∧ mn ≤ 999 ∧ (M 0 12 = 0 ∨ M (8 * M 0 12 + 140) 6 ≤ mn)) ∧ M 0 12 = 40) ∧ M' = M))) 129 [(4, rv g (8 * M 0 12 + 148)), (0, rv g 0), (1, iv t), (2, iv p), (3, iv mn)] [rv g 1, rv g (8 * M 0 12 + 149)] (up (up (up (up (up M 0 12 ((M 0 12) + 1)) (8 * M 0 12 + 148) 4 t) (8 * M 0 12 + 148) 5 p) (8 * M 0 12 + 148) 6 mn) (8 * M 0 12 + 148) 7 1)
            refine x_callVV (as := [rv g 1]) (rest := []) dX8_submit_129 vl8_179 k47 (c_X5_copyFrom g (up (up (up (up (up M 0 12 ((M 0 12) + 1)) (8 * M 0 12 + 148) 4 t) (8 * M 0 12 + 148) 5 p) (8 * M 0 12 + 148) 6 mn) (8 * M 0 12 + 148) 7 1) (8 * M 0 12 + 149) 1 k47 k_1 (by omega) (by simp (disch := omega) only [up_o]; exact ⟨h1.2.1, h1.2.2.1⟩) (fun j j0 j1 => by simp (disch := omega) only [up_o] at j1 ⊢; have h9 := h1.2.2.2.2 j j0 j1; unfold SOK at h9; rw [show (1 : Int) + 1 = 2 by omega] at h9 ⊢; omega)) rfl rfl (Nat.le_of_ble_eq_true rfl) ⟨Nat.le_of_ble_eq_true rfl, Nat.le_of_ble_eq_true rfl⟩ (fun M51 h50 => ?_)
            have hx := h50
            rw [show ((8 * M 0 12 + 149) : Int) = 8 * M 0 12 + 149 by omega] at hx
            have hS : SBM M t p mn M51 := by
              obtain ⟨x1, x2, x3⟩ := hx
              simp (disch := omega) only [up_o] at x2 x3
              refine ⟨fun o k h1 h2 => ?_, ?_, ?_, ?_, ?_, ?_, x2, fun j j0 j1 => ?_⟩
              · rw [x1 o k (by omega), up_n (by omega), up_n (by omega), up_n (by omega), up_n (by omega), up_n (by omega)]
              · rw [x1 _ _ (by omega)]; simp (disch := omega) only [up_o, up_k, up_s]
              · rw [x1 _ _ (by omega)]; simp (disch := omega) only [up_o, up_k, up_s]
              · rw [x1 _ _ (by omega)]; simp (disch := omega) only [up_o, up_k, up_s]
              · rw [x1 _ _ (by omega)]; simp (disch := omega) only [up_o, up_k, up_s]
              · rw [x1 _ _ (by omega), up_s]; first | rw [if_pos (by omega)] | rw [if_neg (by omega)]
              · have h9 := x3 j j0 j1
                rw [show 8 * M 0 12 + 149 + 1 = 8 * M 0 12 + 150 by omega, show 8 * M 0 12 + 149 + 2 = 8 * M 0 12 + 151 by omega, show 8 * M 0 12 + 149 + 3 = 8 * M 0 12 + 152 by omega] at h9
                exact h9
            refine x_aload_n 1 dX8_submit_132 rfl rfl ?_
            refine x_aload 0 dX8_submit_133 rfl ?_
            refine x_callVV (as := [rv g (8 * M 0 12 + 148)]) (rest := []) dX8_submit_135 vl8_182 k_0 (c_X8_judgeByAll g M51 (M 0 12) p (M (20 * p + 48) 3) (by omega) (by omega) hS.2.2.2.1 (by omega) (by omega) (hS.1 _ _ (by omega) (by omega)) (by omega) (hS.pg (by omega) (by omega) h1) (fun u u0 u1 => (hN p u (by omega) (by omega) u0 u1).cong (fun o k h => hS.1 o k (by omega) (by omega))) (by rw [hS.1 (20 * p + 48) 2 (by omega) (by omega)]; omega) (hS.si (by omega) hI)) rfl rfl (Nat.le_of_ble_eq_true rfl) ⟨Nat.le_of_ble_eq_true rfl, Nat.le_of_ble_eq_true rfl⟩ (fun M54 h53 => ?_)
            have hJ := h53
            have C3 := hS.cr C hJ (by omega) (by omega) (by omega) (by omega) (by omega) (by omega) (by omega)
            have D3 := hS.dks C (by omega) (by omega) hD hJ (by omega)
            refine x_aload_n 1 dX8_submit_138 rfl rfl ?_
            refine x_callVV (as := []) (rest := []) dX8_submit_139 vl8_154 k_0 (c_X8_recountBoards g M54 C3) rfl rfl (Nat.le_of_ble_eq_true rfl) ⟨Nat.le_of_ble_eq_true rfl, Nat.le_of_ble_eq_true rfl⟩ (fun M57 h56 => ?_)
            have hr := h56
            refine x_aload_n 1 dX8_submit_142 rfl rfl ?_
            refine x_getr (k := 6) (d := 17) dX8_submit_143 fl8_52 k_0 rfl (fun k58 => ?_)
            have k58 : isK 0 6 17 := k58
            show Ok g mX8_submit (rmX 6) (FX g (pI (fun z M' => (((0 ≤ t ∧ t < M 0 11) ∧ 0 ≤ p ∧ p < M 0 10) ∧ (0 ≤ mn ∧ mn ≤ 999 ∧ (M 0 12 = 0 ∨ M (8 * M 0 12 + 140) 6 ≤ mn)) ∧ M 0 12 < 40) ∧ z = M 0 12 ∧ ∃ M2 M3, SBM M t p mn M2 ∧ JBA M2 (M 0 12) (M (20 * p + 48) 3) M3 ∧ CR M3 ∧ DKs M3 ∧ (∀ o k, ¬ (17 ≤ o ∧ o ≤ 40) → M' o k = M3 o k) ∧ BOK M' 27 0 ∧ BOK M' 34 1 ∧ RAb M' (M (20 * p + 48) 1) (fFo (fun u => M' 29 (5 * u + p) ≠ -1) p (M 0 11) (b (M (20 * p + 48) 1))) ∧ ∀ o k, 17 ≤ o → o ≤ 26 → o ≠ 18 → o ≠ M (20 * p + 48) 1 + 20 → ¬ (k = M (20 * p + 48) 1 ∧ 24 ≤ o) → ¬ (o = 17 ∧ k = 5) → M' o k = M o k)) (fun E M' => (E = "java/lang/IndexOutOfBoundsException" ∧ (¬ ((0 ≤ t ∧ t < M 0 11) ∧ 0 ≤ p ∧ p < M 0 10)) ∧ M' = M) ∨ (E = "java/lang/IllegalArgumentException" ∧ (((0 ≤ t ∧ t < M 0 11) ∧ 0 ≤ p ∧ p < M 0 10) ∧ ¬ (0 ≤ mn ∧ mn ≤ 999 ∧ (M 0 12 = 0 ∨ M (8 * M 0 12 + 140) 6 ≤ mn))) ∧ M' = M) ∨ (E = "java/lang/IllegalStateException" ∧ (((0 ≤ t ∧ t < M 0 11) ∧ 0 ≤ p ∧ p < M 0 10) ∧ (0 ≤ mn ∧ mn ≤ 999 ∧ (M 0 12 = 0 ∨ M (8 * M 0 12 + 140) 6 ≤ mn)) ∧ M 0 12 = 40) ∧ M' = M))) 146 [(4, rv g (8 * M 0 12 + 148)), (0, rv g 0), (1, iv t), (2, iv p), (3, iv mn)] [rv g 17] M57
            refine x_aload_n 1 dX8_submit_146 rfl rfl ?_
            refine x_getr (k := 7) (d := 27) dX8_submit_147 fl8_59 k_0 rfl (fun k59 => ?_)
            have k59 : isK 1 7 27 := k59
            show Ok g mX8_submit (rmX 6) (FX g (pI (fun z M' => (((0 ≤ t ∧ t < M 0 11) ∧ 0 ≤ p ∧ p < M 0 10) ∧ (0 ≤ mn ∧ mn ≤ 999 ∧ (M 0 12 = 0 ∨ M (8 * M 0 12 + 140) 6 ≤ mn)) ∧ M 0 12 < 40) ∧ z = M 0 12 ∧ ∃ M2 M3, SBM M t p mn M2 ∧ JBA M2 (M 0 12) (M (20 * p + 48) 3) M3 ∧ CR M3 ∧ DKs M3 ∧ (∀ o k, ¬ (17 ≤ o ∧ o ≤ 40) → M' o k = M3 o k) ∧ BOK M' 27 0 ∧ BOK M' 34 1 ∧ RAb M' (M (20 * p + 48) 1) (fFo (fun u => M' 29 (5 * u + p) ≠ -1) p (M 0 11) (b (M (20 * p + 48) 1))) ∧ ∀ o k, 17 ≤ o → o ≤ 26 → o ≠ 18 → o ≠ M (20 * p + 48) 1 + 20 → ¬ (k = M (20 * p + 48) 1 ∧ 24 ≤ o) → ¬ (o = 17 ∧ k = 5) → M' o k = M o k)) (fun E M' => (E = "java/lang/IndexOutOfBoundsException" ∧ (¬ ((0 ≤ t ∧ t < M 0 11) ∧ 0 ≤ p ∧ p < M 0 10)) ∧ M' = M) ∨ (E = "java/lang/IllegalArgumentException" ∧ (((0 ≤ t ∧ t < M 0 11) ∧ 0 ≤ p ∧ p < M 0 10) ∧ ¬ (0 ≤ mn ∧ mn ≤ 999 ∧ (M 0 12 = 0 ∨ M (8 * M 0 12 + 140) 6 ≤ mn))) ∧ M' = M) ∨ (E = "java/lang/IllegalStateException" ∧ (((0 ≤ t ∧ t < M 0 11) ∧ 0 ≤ p ∧ p < M 0 10) ∧ (0 ≤ mn ∧ mn ≤ 999 ∧ (M 0 12 = 0 ∨ M (8 * M 0 12 + 140) 6 ≤ mn)) ∧ M 0 12 = 40) ∧ M' = M))) 150 [(4, rv g (8 * M 0 12 + 148)), (0, rv g 0), (1, iv t), (2, iv p), (3, iv mn)] [rv g 27, rv g 17] M57
            refine x_iload_n 3 dX8_submit_150 rfl rfl ?_
            refine x_aload_n 1 dX8_submit_151 rfl rfl ?_
            refine x_getr (k := 2) (d := 8) dX8_submit_152 fl8_25 k_0 rfl (fun k60 => ?_)
            have k60 : isK 30 5 8 := k60
            show Ok g mX8_submit (rmX 6) (FX g (pI (fun z M' => (((0 ≤ t ∧ t < M 0 11) ∧ 0 ≤ p ∧ p < M 0 10) ∧ (0 ≤ mn ∧ mn ≤ 999 ∧ (M 0 12 = 0 ∨ M (8 * M 0 12 + 140) 6 ≤ mn)) ∧ M 0 12 < 40) ∧ z = M 0 12 ∧ ∃ M2 M3, SBM M t p mn M2 ∧ JBA M2 (M 0 12) (M (20 * p + 48) 3) M3 ∧ CR M3 ∧ DKs M3 ∧ (∀ o k, ¬ (17 ≤ o ∧ o ≤ 40) → M' o k = M3 o k) ∧ BOK M' 27 0 ∧ BOK M' 34 1 ∧ RAb M' (M (20 * p + 48) 1) (fFo (fun u => M' 29 (5 * u + p) ≠ -1) p (M 0 11) (b (M (20 * p + 48) 1))) ∧ ∀ o k, 17 ≤ o → o ≤ 26 → o ≠ 18 → o ≠ M (20 * p + 48) 1 + 20 → ¬ (k = M (20 * p + 48) 1 ∧ 24 ≤ o) → ¬ (o = 17 ∧ k = 5) → M' o k = M o k)) (fun E M' => (E = "java/lang/IndexOutOfBoundsException" ∧ (¬ ((0 ≤ t ∧ t < M 0 11) ∧ 0 ≤ p ∧ p < M 0 10)) ∧ M' = M) ∨ (E = "java/lang/IllegalArgumentException" ∧ (((0 ≤ t ∧ t < M 0 11) ∧ 0 ≤ p ∧ p < M 0 10) ∧ ¬ (0 ≤ mn ∧ mn ≤ 999 ∧ (M 0 12 = 0 ∨ M (8 * M 0 12 + 140) 6 ≤ mn))) ∧ M' = M) ∨ (E = "java/lang/IllegalStateException" ∧ (((0 ≤ t ∧ t < M 0 11) ∧ 0 ≤ p ∧ p < M 0 10) ∧ (0 ≤ mn ∧ mn ≤ 999 ∧ (M 0 12 = 0 ∨ M (8 * M 0 12 + 140) 6 ≤ mn)) ∧ M 0 12 = 40) ∧ M' = M))) 155 [(4, rv g (8 * M 0 12 + 148)), (0, rv g 0), (1, iv t), (2, iv p), (3, iv mn)] [rv g 8, iv p, rv g 27, rv g 17] M57
            refine x_iload_n 3 dX8_submit_155 rfl rfl ?_
            refine x_aald30 dX8_submit_156 k60 (by omega) (by omega) (by decide) (fun k61 => ?_)
            have ek61 : 8 + (40 + 20 * p) = 20 * p + 48 := by omega
            rw [ek61] at k61 ⊢
            refine x_geti (k := 1) (kI := 1) dX8_submit_157 fl8_124 k61 rfl rfl (fun ⟨a62, a62'⟩ => ?_)
            have e63 : M57 (20 * p + 48) 1 = M (20 * p + 48) 1 := ((hr.1 _ _ (by omega)).trans ((hJ.1 _ _ (by omega) (by omega) (by omega)).trans (hS.1 _ _ (by omega) (by omega))))
            simp only [e63] at a62 a62' ⊢
            refine x_callVV (as := [rv g 27, iv p, iv (M (20 * p + 48) 1)]) (rest := []) dX8_submit_160 vl8_186 k58 (c_X0_follow g M57 27 p (M (20 * p + 48) 1) (M 0 11) (b (M (20 * p + 48) 1)) (by omega) (by omega) k_27 (by omega) (by rw [hr.2.1.1, hr.1 0 11 (by omega), hJ.1 0 11 (by omega) (by omega) (by omega), hS.1 0 11 (by omega) (by omega)]) (by omega) (hb9.1.cong (by omega) (by omega) (fun a k h => (hr.1 a k (by omega)).trans ((hJ.1 a k (by omega) (by omega) (by omega)).trans (hS.1 a k (by omega) (by omega))))) hb9.2) rfl rfl (Nat.le_of_ble_eq_true rfl) ⟨Nat.le_of_ble_eq_true rfl, Nat.le_of_ble_eq_true rfl⟩ (fun M66 h65 => ?_)
            have hf := h65
            have hs9 : (fun u => M66 29 (5 * u + p) ≠ -1) = (fun u => M57 (27 + 2) (5 * u + p) ≠ -1) := by
              funext u
              rw [show (27 : Int) + 2 = 29 by omega, hf.1 29 _ (by omega) (by omega) (by omega) (by omega)]
            have hn12 : M66 0 12 = M 0 12 + 1 := by rw [hf.1 0 12 (by omega) (by omega) (by omega) (by omega), hr.1 0 12 (by omega), hJ.1 0 12 (by omega) (by omega) (by omega)]; exact hS.2.1
            have e12 : 0 ≤ M57 0 12 := by rw [hr.1 0 12 (by omega), hJ.1 0 12 (by omega) (by omega) (by omega), hS.2.1]; omega
            have z1 := fun (o k : Int) (h : ¬ (17 ≤ o ∧ o ≤ 40)) => (hf.1 o k (by omega) (by omega) (by omega) (by omega)).trans (hr.1 o k (by omega))
            have z2 : BOK M66 27 0 := hr.2.1.cong e12 (fun a k h => hf.1 a k (by omega) (by omega) (by omega) (by omega)) (RSM.of (fun a k h => hf.1 a k (by omega) (by omega) (by omega) (by omega)))
            have z3 : BOK M66 34 1 := hr.2.2.cong e12 (fun a k h => hf.1 a k (by omega) (by omega) (by omega) (by omega)) (RSM.of (fun a k h => hf.1 a k (by omega) (by omega) (by omega) (by omega)))
            have z4 : RAb M66 (M (20 * p + 48) 1) (fFo (fun u => M66 29 (5 * u + p) ≠ -1) p (M 0 11) (b (M (20 * p + 48) 1))) := by
              rw [hs9]
              exact hf.2
            have z5 : ∀ o k, 17 ≤ o → o ≤ 26 → o ≠ 18 → o ≠ M (20 * p + 48) 1 + 20 → ¬ (k = M (20 * p + 48) 1 ∧ 24 ≤ o) → ¬ (o = 17 ∧ k = 5) → M66 o k = M o k := fun o k h1 h2 h3 h4 h5 h6 => (hf.1 o k h3 h4 (by omega) h6).trans ((hr.1 o k (by omega)).trans ((hJ.1 o k (by omega) (by omega) (by omega)).trans (hS.1 o k (by omega) (by omega))))
            refine x_aload_n 1 dX8_submit_163 rfl rfl ?_
            refine x_geti (k := 12) (kI := 12) dX8_submit_164 fl8_76 k_0 rfl rfl (fun ⟨a67, a67'⟩ => ?_)
            have e68 : M66 0 12 = M 0 12 + 1 := hn12
            simp only [e68] at a67 a67' ⊢
            refine x_iconst (1) dX8_submit_167 rfl ?_
            refine x_isub dX8_submit_168 ?_
            refine x_toX ?_
            refine x_iret dX8_submit_169 rfl rfl ?_
            exact ⟨_, rfl, ⟨by omega, by omega, by omega⟩, by omega, _, _, hS, hJ, C3, D3, z1, z2, z3, z4, z5⟩
        · exact x_throw hst ex_94 dX8_submit_55 dX8_submit_58 dX8_submit_59 dX8_submit_62 (Nat.le_of_ble_eq_true rfl) (Nat.le_of_ble_eq_true rfl) (Nat.le_of_ble_eq_true rfl) (Nat.le_of_ble_eq_true rfl) (Or.inr (Or.inr (⟨rfl, ⟨by omega, by omega, by omega⟩, rfl⟩)))
      · exact x_throw hst ex_88 dX8_submit_38 dX8_submit_41 dX8_submit_42 dX8_submit_45 (Nat.le_of_ble_eq_true rfl) (Nat.le_of_ble_eq_true rfl) (Nat.le_of_ble_eq_true rfl) (Nat.le_of_ble_eq_true rfl) (Or.inr (Or.inl ⟨rfl, ⟨by omega, by omega⟩, rfl⟩))
    · exact x_throw hst ex_133 dX8_submit_16 dX8_submit_19 dX8_submit_20 dX8_submit_23 (Nat.le_of_ble_eq_true rfl) (Nat.le_of_ble_eq_true rfl) (Nat.le_of_ble_eq_true rfl) (Nat.le_of_ble_eq_true rfl) (Or.inl ⟨rfl, by omega, rfl⟩)
