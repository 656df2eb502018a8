set_option maxHeartbeats 600000 in
set_option maxRecDepth 100000 in
theorem c_X9_submit (g : GG) (M : Mem) (t p mn : Int) (b : Int → BSt) (I : RB M) (ht : rg t) (hp : rg p) (hmn : rg mn) (hb : ∀ c, 0 ≤ c → c < 4 → RBb M c (b c) ∧ QS 50000 (b c)) (hst : M 468 34 ≤ 99900) : Ct g yX9_submit cX9_submit 7 (some .int) 4 [rv g 468, iv t, iv p, iv mn] M (pI (fun z M' => (¬ ((0 ≤ t ∧ t < M 468 17) ∧ 0 ≤ p ∧ p < M 468 9) ∧ M' = up M 468 0 1) ∨ ((((0 ≤ t ∧ t < M 468 17) ∧ 0 ≤ p ∧ p < M 468 9) ∧ ¬ (0 ≤ mn ∧ mn ≤ 999 ∧ (M 468 18 = 0 ∨ M 483 (M 468 18 - 1) ≤ mn))) ∧ M' = up M 468 0 2) ∨ ((((0 ≤ t ∧ t < M 468 17) ∧ 0 ≤ p ∧ p < M 468 9) ∧ (0 ≤ mn ∧ mn ≤ 999 ∧ (M 468 18 = 0 ∨ M 483 (M 468 18 - 1) ≤ mn)) ∧ M 468 18 = 40) ∧ M' = up M 468 0 3) ∨ ((((0 ≤ t ∧ t < M 468 17) ∧ 0 ≤ p ∧ p < M 468 9) ∧ (0 ≤ mn ∧ mn ≤ 999 ∧ (M 468 18 = 0 ∨ M 483 (M 468 18 - 1) ≤ mn)) ∧ M 468 18 < 40) ∧ z = M 468 18 ∧ ∃ M1 M2 b', SUBd M t p mn M1 ∧ JS M1 (M 468 18) (M 476 p) M2 ∧ RB M2 ∧ BMV M2 (M 474 p) b' 1 M' ∧ (((b (M 474 p)).1 (5 * t + p) = 45 ∧ Sol M2 t p ∧ b' = SNo (5 * t + p) (b (M 474 p))) ∨ (¬ ((b (M 474 p)).1 (5 * t + p) = 45 ∧ Sol M2 t p) ∧ b' = b (M 474 p)))))) := by
  refine ct_of (by decide +kernel) (Nat.le_of_ble_eq_true rfl) ?_
  show Ok g mX9_submit (rmd 4) (FQ g (pI (fun z M' => (¬ ((0 ≤ t ∧ t < M 468 17) ∧ 0 ≤ p ∧ p < M 468 9) ∧ M' = up M 468 0 1) ∨ ((((0 ≤ t ∧ t < M 468 17) ∧ 0 ≤ p ∧ p < M 468 9) ∧ ¬ (0 ≤ mn ∧ mn ≤ 999 ∧ (M 468 18 = 0 ∨ M 483 (M 468 18 - 1) ≤ mn))) ∧ M' = up M 468 0 2) ∨ ((((0 ≤ t ∧ t < M 468 17) ∧ 0 ≤ p ∧ p < M 468 9) ∧ (0 ≤ mn ∧ mn ≤ 999 ∧ (M 468 18 = 0 ∨ M 483 (M 468 18 - 1) ≤ mn)) ∧ M 468 18 = 40) ∧ M' = up M 468 0 3) ∨ ((((0 ≤ t ∧ t < M 468 17) ∧ 0 ≤ p ∧ p < M 468 9) ∧ (0 ≤ mn ∧ mn ≤ 999 ∧ (M 468 18 = 0 ∨ M 483 (M 468 18 - 1) ≤ mn)) ∧ M 468 18 < 40) ∧ z = M 468 18 ∧ ∃ M1 M2 b', SUBd M t p mn M1 ∧ JS M1 (M 468 18) (M 476 p) M2 ∧ RB M2 ∧ BMV M2 (M 474 p) b' 1 M' ∧ (((b (M 474 p)).1 (5 * t + p) = 45 ∧ Sol M2 t p ∧ b' = SNo (5 * t + p) (b (M 474 p))) ∨ (¬ ((b (M 474 p)).1 (5 * t + p) = 45 ∧ Sol M2 t p) ∧ b' = b (M 474 p))))))) 0 [(0, rv g 468), (1, iv t), (2, iv p), (3, iv mn)] [] M
  have i0 := I.rng
  have ht1 := ht.1
  have ht2 := ht.2
  have hp1 := hp.1
  have hp2 := hp.2
  have hmn1 := hmn.1
  have hmn2 := hmn.2
  have h_224 : ∀ (n_224 : Nat) (N : Mem) (V : Mem) (u : Int), (((0 ≤ t ∧ t < M 468 17) ∧ 0 ≤ p ∧ p < M 468 9) ∧ (0 ≤ mn ∧ mn ≤ 999 ∧ (M 468 18 = 0 ∨ M 483 (M 468 18 - 1) ≤ mn)) ∧ M 468 18 < 40) → (0 ≤ u ∧ u ≤ M 476 p) → (SUBd M t p mn N) → (JS N (M 468 18) u V) → (M 476 p - u).toNat < n_224 → Ok g mX9_submit (rmd 4) (FQ g (pI (fun z M' => (¬ ((0 ≤ t ∧ t < M 468 17) ∧ 0 ≤ p ∧ p < M 468 9) ∧ M' = up M 468 0 1) ∨ ((((0 ≤ t ∧ t < M 468 17) ∧ 0 ≤ p ∧ p < M 468 9) ∧ ¬ (0 ≤ mn ∧ mn ≤ 999 ∧ (M 468 18 = 0 ∨ M 483 (M 468 18 - 1) ≤ mn))) ∧ M' = up M 468 0 2) ∨ ((((0 ≤ t ∧ t < M 468 17) ∧ 0 ≤ p ∧ p < M 468 9) ∧ (0 ≤ mn ∧ mn ≤ 999 ∧ (M 468 18 = 0 ∨ M 483 (M 468 18 - 1) ≤ mn)) ∧ M 468 18 = 40) ∧ M' = up M 468 0 3) ∨ ((((0 ≤ t ∧ t < M 468 17) ∧ 0 ≤ p ∧ p < M 468 9) ∧ (0 ≤ mn ∧ mn ≤ 999 ∧ (M 468 18 = 0 ∨ M 483 (M 468 18 - 1) ≤ mn)) ∧ M 468 18 < 40) ∧ z = M 468 18 ∧ ∃ M1 M2 b', SUBd M t p mn M1 ∧ JS M1 (M 468 18) (M 476 p) M2 ∧ RB M2 ∧ BMV M2 (M 474 p) b' 1 M' ∧ (((b (M 474 p)).1 (5 * t + p) = 45 ∧ Sol M2 t p ∧ b' = SNo (5 * t + p) (b (M 474 p))) ∨ (¬ ((b (M 474 p)).1 (5 * t + p) = 45 ∧ Sol M2 t p) ∧ b' = b (M 474 p))))))) 224 [(0, rv g 468), (1, iv t), (2, iv p), (5, iv ((M 468 18))), (6, iv u)] [] V := by
    intro n_224
    induction n_224 with
    | zero => intro N V u gd l0 l1 l2 hn_224; exact absurd hn_224 (Nat.not_lt_zero _)
    | succ n_224 ih_224 =>
      intro N V u gd l0 l1 l2 hn_224
      have gd0 := gd.1.1
      have gd1 := gd.1.2
      have gd2 := gd.2.1
      have i1 := I.prob p (by omega) (by omega)
      refine x_iload 4 dX9_submit_224 rfl ?_
      refine x_aload_n 0 dX9_submit_226 rfl rfl ?_
      refine x_getr (k := 12) (d := 8) dX9_submit_227 fl9_32 k_468 rfl (fun k1 => ?_)
      have k1 : isK 20 5 476 := k1
      show Ok g mX9_submit (rmd 4) (FQ g (pI (fun z M' => (¬ ((0 ≤ t ∧ t < M 468 17) ∧ 0 ≤ p ∧ p < M 468 9) ∧ M' = up M 468 0 1) ∨ ((((0 ≤ t ∧ t < M 468 17) ∧ 0 ≤ p ∧ p < M 468 9) ∧ ¬ (0 ≤ mn ∧ mn ≤ 999 ∧ (M 468 18 = 0 ∨ M 483 (M 468 18 - 1) ≤ mn))) ∧ M' = up M 468 0 2) ∨ ((((0 ≤ t ∧ t < M 468 17) ∧ 0 ≤ p ∧ p < M 468 9) ∧ (0 ≤ mn ∧ mn ≤ 999 ∧ (M 468 18 = 0 ∨ M 483 (M 468 18 - 1) ≤ mn)) ∧ M 468 18 = 40) ∧ M' = up M 468 0 3) ∨ ((((0 ≤ t ∧ t < M 468 17) ∧ 0 ≤ p ∧ p < M 468 9) ∧ (0 ≤ mn ∧ mn ≤ 999 ∧ (M 468 18 = 0 ∨ M 483 (M 468 18 - 1) ≤ mn)) ∧ M 468 18 < 40) ∧ z = M 468 18 ∧ ∃ M1 M2 b', SUBd M t p mn M1 ∧ JS M1 (M 468 18) (M 476 p) M2 ∧ RB M2 ∧ BMV M2 (M 474 p) b' 1 M' ∧ (((b (M 474 p)).1 (5 * t + p) = 45 ∧ Sol M2 t p ∧ b' = SNo (5 * t + p) (b (M 474 p))) ∨ (¬ ((b (M 474 p)).1 (5 * t + p) = 45 ∧ Sol M2 t p) ∧ b' = b (M 474 p))))))) 230 [(0, rv g 468), (1, iv t), (2, iv p), (5, iv ((M 468 18))), (6, iv u)] [rv g 476, iv u] V
      refine x_iload_n 2 dX9_submit_230 rfl rfl ?_
      refine x_iald dX9_submit_231 k1 (by omega) (by omega) (by decide) (fun ⟨a2, a2'⟩ => ?_)
      have e3 : V 476 p = M 476 p := ((l2.1 _ _ (by omega)).trans (l1.1.2.2.2.2.2.2 _ _ (by unfold SBf; omega)))
      simp only [e3] at a2 a2' ⊢
      refine x_icmp_ge (tgt := 249) dX9_submit_232 (by decide) ⟨by omega, by omega⟩ ⟨by omega, by omega⟩ (fun c4 => ?_) (fun c4 => ?_)
      · rw [show u = M 476 p by omega] at l2
        have hI := l1.rb I l2 gd0.1 gd0.2 gd1.1 gd1.2 gd2.1 gd2.2.1 gd.2.2 gd2.2.2
        have fV : ∀ o k, ¬ SBf (M 468 18) o k → ¬ (488 ≤ o ∧ o ≤ 492) → V o k = M o k := fun o k b c => (l2.1 o k c).trans (l1.1.2.2.2.2.2.2 o k b)
        have hc9 := hb (M 474 p) (by omega) (by omega)
        refine x_aload_n 0 dX9_submit_249 rfl rfl ?_
        refine x_iload_n 1 dX9_submit_250 rfl rfl ?_
        refine x_iload_n 2 dX9_submit_251 rfl rfl ?_
        refine x_callVV (as := [iv t, iv p]) (rest := []) dX9_submit_252 vl9_180 k_468 (c_X9_sends g V t p (b (M 474 p)) hI (by omega) (by rw [fV 468 17 (by unfold SBf; omega) (by omega)]; omega) (by omega) (by rw [fV 468 9 (by unfold SBf; omega) (by omega)]; omega) (by rw [fV 474 p (by unfold SBf; omega) (by omega)]; exact l1.rbb l2 hc9.1) (hc9.2.mono (by omega)) (by rw [fV 468 34 (by unfold SBf; omega) (by omega)]; omega)) rfl rfl (Nat.le_of_ble_eq_true rfl) ⟨Nat.le_of_ble_eq_true rfl, Nat.le_of_ble_eq_true rfl⟩ (fun M7 h6 => ?_)
        obtain ⟨b', u1, u2⟩ := h6
        rw [fV 474 p (by unfold SBf; omega) (by omega)] at u1
        refine x_iload 3 dX9_submit_255 rfl ?_
        refine x_iret dX9_submit_257 rfl rfl ?_
        exact ⟨_, rfl, Or.inr (Or.inr (Or.inr ⟨gd, rfl, _, _, b', l1, l2, hI, u1, u2⟩))⟩
      · refine x_aload_n 0 dX9_submit_235 rfl rfl ?_
        refine x_iload 3 dX9_submit_236 rfl ?_
        refine x_iload 4 dX9_submit_238 rfl ?_
        refine x_callVV (as := [iv ((M 468 18)), iv u]) (rest := []) dX9_submit_240 vl9_164 k_468 (c_X9_judges g V (M 468 18) u ((l1.rb0 I gd0.1 gd0.2 gd1.1 gd1.2 gd2.1 gd2.2.1 gd.2.2).js l2) (by omega) (by rw [l2.1 468 18 (by omega), l1.2]; omega) (by omega) (by rw [l2.1 482 (M 468 18) (by omega), l1.1.2.2.1, l2.1 476 p (by omega), l1.1.2.2.2.2.2.2 476 p (by unfold SBf; omega)]; omega)) rfl rfl (Nat.le_of_ble_eq_true rfl) ⟨Nat.le_of_ble_eq_true rfl, Nat.le_of_ble_eq_true rfl⟩ (fun M10 h9 => ?_)
        have hj := h9
        refine x_iinc (z := u) (lv' := [(6, iv (u + 1)), (0, rv g 468), (1, iv t), (2, iv p), (5, iv ((M 468 18)))]) 4 dX9_submit_243 rfl (Nat.le_of_ble_eq_true rfl) rfl ?_
        refine x_goto (tgt := 224) dX9_submit_246 (by decide) ?_
        refine x_sub [1, 2, 3, 4, 0] rfl ?_
        exact ih_224 (N) _ _ (by exact gd) (by omega) (by exact l1) (by exact l2.step (by omega) (by omega) hj) (by omega)
  have h_136 : ∀ (n_136 : Nat) (M1 : Mem) (k : Int), (((0 ≤ t ∧ t < M 468 17) ∧ 0 ≤ p ∧ p < M 468 9) ∧ (0 ≤ mn ∧ mn ≤ 999 ∧ (M 468 18 = 0 ∨ M 483 (M 468 18 - 1) ≤ mn)) ∧ M 468 18 < 40) → (0 ≤ k ∧ k ≤ M 468 1) → (SB0 M t p mn k M1) → (M1 468 18 = M 468 18) → (M 468 1 - k).toNat < n_136 → Ok g mX9_submit (rmd 4) (FQ g (pI (fun z M' => (¬ ((0 ≤ t ∧ t < M 468 17) ∧ 0 ≤ p ∧ p < M 468 9) ∧ M' = up M 468 0 1) ∨ ((((0 ≤ t ∧ t < M 468 17) ∧ 0 ≤ p ∧ p < M 468 9) ∧ ¬ (0 ≤ mn ∧ mn ≤ 999 ∧ (M 468 18 = 0 ∨ M 483 (M 468 18 - 1) ≤ mn))) ∧ M' = up M 468 0 2) ∨ ((((0 ≤ t ∧ t < M 468 17) ∧ 0 ≤ p ∧ p < M 468 9) ∧ (0 ≤ mn ∧ mn ≤ 999 ∧ (M 468 18 = 0 ∨ M 483 (M 468 18 - 1) ≤ mn)) ∧ M 468 18 = 40) ∧ M' = up M 468 0 3) ∨ ((((0 ≤ t ∧ t < M 468 17) ∧ 0 ≤ p ∧ p < M 468 9) ∧ (0 ≤ mn ∧ mn ≤ 999 ∧ (M 468 18 = 0 ∨ M 483 (M 468 18 - 1) ≤ mn)) ∧ M 468 18 < 40) ∧ z = M 468 18 ∧ ∃ M1 M2 b', SUBd M t p mn M1 ∧ JS M1 (M 468 18) (M 476 p) M2 ∧ RB M2 ∧ BMV M2 (M 474 p) b' 1 M' ∧ (((b (M 474 p)).1 (5 * t + p) = 45 ∧ Sol M2 t p ∧ b' = SNo (5 * t + p) (b (M 474 p))) ∨ (¬ ((b (M 474 p)).1 (5 * t + p) = 45 ∧ Sol M2 t p) ∧ b' = b (M 474 p))))))) 136 [(0, rv g 468), (1, iv t), (2, iv p), (3, iv mn), (5, iv ((M 468 18))), (6, iv k)] [] M1 := by
    intro n_136
    induction n_136 with
    | zero => intro M1 k gd j0 j1 j2 hn_136; exact absurd hn_136 (Nat.not_lt_zero _)
    | succ n_136 ih_136 =>
      intro M1 k gd j0 j1 j2 hn_136
      have gd0 := gd.1.1
      have gd1 := gd.1.2
      have gd2 := gd.2.1
      have i1 := I.prob p (by omega) (by omega)
      refine x_iload 5 dX9_submit_136 rfl ?_
      refine x_aload_n 0 dX9_submit_138 rfl rfl ?_
      refine x_geti (k := 1) (kI := 1) dX9_submit_139 fl9_111 k_468 rfl rfl (fun ⟨a11, a11'⟩ => ?_)
      have e12 : M1 468 1 = M 468 1 := (j1.2.2.2.2.2.2 _ _ (by unfold SBf; omega))
      simp only [e12] at a11 a11' ⊢
      refine x_icmp_ge (tgt := 211) dX9_submit_142 (by decide) ⟨by omega, by omega⟩ ⟨by omega, by omega⟩ (fun c13 => ?_) (fun c13 => ?_)
      · refine x_aload_n 0 dX9_submit_211 rfl rfl ?_
        refine x_dup dX9_submit_212 rfl ?_
        refine x_geti (k := 18) (kI := 18) dX9_submit_213 fl9_130 k_468 rfl rfl (fun ⟨a14, a14'⟩ => ?_)
        have e15 : M1 468 18 = M 468 18 := j2
        simp only [e15] at a14 a14' ⊢
        refine x_iconst (1) dX9_submit_216 rfl ?_
        refine x_iadd dX9_submit_217 ?_
        refine x_puti (k := 18) (kI := 18) dX9_submit_218 fw9_130 k_468 rfl ⟨by omega, by omega⟩ rfl rfl rfl ?_
        refine x_iconst (0) dX9_submit_221 rfl ?_
        refine x_istore (lv' := [(6, iv 0), (0, rv g 468), (1, iv t), (2, iv p), (3, iv mn), (5, iv ((M 468 18)))]) dX9_submit_222 (Nat.le_of_ble_eq_true rfl) rfl ?_
        refine x_sub [1, 2, 3, 5, 0] rfl ?_
        exact h_224 _ ((up M1 468 18 (M 468 18 + 1))) _ _ (by exact gd) (by omega) (by refine ⟨?_, up_s _ _ _ _⟩; obtain ⟨s1, s2, s3, s4, s5, s6, s7⟩ := j1; refine ⟨(up_k (by omega)).trans s1, (up_o (by omega)).trans s2, (up_o (by omega)).trans s3, (up_o (by omega)).trans s4, (up_o (by omega)).trans s5, fun j x0 x1 => ?_, fun o j h => ?_⟩; have h9 := s6 j x0 (by omega); simp (disch := omega) only [up_o]; exact h9; rw [up_n (by unfold SBf at h; omega)]; exact s7 o j h) (by exact JS.ini) (Nat.lt_succ_self _)
      · have g9 := I.stp k (by omega) (by omega)
        unfold SOK at g9
        refine x_aload_n 0 dX9_submit_145 rfl rfl ?_
        refine x_getr (k := 23) (d := 17) dX9_submit_146 fl9_59 k_468 rfl (fun k16 => ?_)
        have k16 : isK 21 800 485 := k16
        show Ok g mX9_submit (rmd 4) (FQ g (pI (fun z M' => (¬ ((0 ≤ t ∧ t < M 468 17) ∧ 0 ≤ p ∧ p < M 468 9) ∧ M' = up M 468 0 1) ∨ ((((0 ≤ t ∧ t < M 468 17) ∧ 0 ≤ p ∧ p < M 468 9) ∧ ¬ (0 ≤ mn ∧ mn ≤ 999 ∧ (M 468 18 = 0 ∨ M 483 (M 468 18 - 1) ≤ mn))) ∧ M' = up M 468 0 2) ∨ ((((0 ≤ t ∧ t < M 468 17) ∧ 0 ≤ p ∧ p < M 468 9) ∧ (0 ≤ mn ∧ mn ≤ 999 ∧ (M 468 18 = 0 ∨ M 483 (M 468 18 - 1) ≤ mn)) ∧ M 468 18 = 40) ∧ M' = up M 468 0 3) ∨ ((((0 ≤ t ∧ t < M 468 17) ∧ 0 ≤ p ∧ p < M 468 9) ∧ (0 ≤ mn ∧ mn ≤ 999 ∧ (M 468 18 = 0 ∨ M 483 (M 468 18 - 1) ≤ mn)) ∧ M 468 18 < 40) ∧ z = M 468 18 ∧ ∃ M1 M2 b', SUBd M t p mn M1 ∧ JS M1 (M 468 18) (M 476 p) M2 ∧ RB M2 ∧ BMV M2 (M 474 p) b' 1 M' ∧ (((b (M 474 p)).1 (5 * t + p) = 45 ∧ Sol M2 t p ∧ b' = SNo (5 * t + p) (b (M 474 p))) ∨ (¬ ((b (M 474 p)).1 (5 * t + p) = 45 ∧ Sol M2 t p) ∧ b' = b (M 474 p))))))) 149 [(0, rv g 468), (1, iv t), (2, iv p), (3, iv mn), (5, iv ((M 468 18))), (6, iv k)] [rv g 485] M1
        refine x_bipush (20) dX9_submit_149 rfl ?_
        refine x_iload 4 dX9_submit_151 rfl ?_
        refine x_imul dX9_submit_153 ?_
        refine x_iload 5 dX9_submit_154 rfl ?_
        refine x_iadd dX9_submit_156 ?_
        refine x_aload_n 0 dX9_submit_157 rfl rfl ?_
        refine x_getr (k := 2) (d := 1) dX9_submit_158 fl9_7 k_468 rfl (fun k17 => ?_)
        have k17 : isK 21 20 469 := k17
        show Ok g mX9_submit (rmd 4) (FQ g (pI (fun z M' => (¬ ((0 ≤ t ∧ t < M 468 17) ∧ 0 ≤ p ∧ p < M 468 9) ∧ M' = up M 468 0 1) ∨ ((((0 ≤ t ∧ t < M 468 17) ∧ 0 ≤ p ∧ p < M 468 9) ∧ ¬ (0 ≤ mn ∧ mn ≤ 999 ∧ (M 468 18 = 0 ∨ M 483 (M 468 18 - 1) ≤ mn))) ∧ M' = up M 468 0 2) ∨ ((((0 ≤ t ∧ t < M 468 17) ∧ 0 ≤ p ∧ p < M 468 9) ∧ (0 ≤ mn ∧ mn ≤ 999 ∧ (M 468 18 = 0 ∨ M 483 (M 468 18 - 1) ≤ mn)) ∧ M 468 18 = 40) ∧ M' = up M 468 0 3) ∨ ((((0 ≤ t ∧ t < M 468 17) ∧ 0 ≤ p ∧ p < M 468 9) ∧ (0 ≤ mn ∧ mn ≤ 999 ∧ (M 468 18 = 0 ∨ M 483 (M 468 18 - 1) ≤ mn)) ∧ M 468 18 < 40) ∧ z = M 468 18 ∧ ∃ M1 M2 b', SUBd M t p mn M1 ∧ JS M1 (M 468 18) (M 476 p) M2 ∧ RB M2 ∧ BMV M2 (M 474 p) b' 1 M' ∧ (((b (M 474 p)).1 (5 * t + p) = 45 ∧ Sol M2 t p ∧ b' = SNo (5 * t + p) (b (M 474 p))) ∨ (¬ ((b (M 474 p)).1 (5 * t + p) = 45 ∧ Sol M2 t p) ∧ b' = b (M 474 p))))))) 161 [(0, rv g 468), (1, iv t), (2, iv p), (3, iv mn), (5, iv ((M 468 18))), (6, iv k)] [rv g 469, iv ((20 * ((M 468 18))) + k), rv g 485] M1
        refine x_iload 5 dX9_submit_161 rfl ?_
        refine x_cald dX9_submit_163 k17 (by omega) (by omega) (by decide) (fun ⟨a18, a18'⟩ => ?_)
        have e19 : M1 469 k = M 469 k := (j1.2.2.2.2.2.2 _ _ (by unfold SBf; omega))
        simp only [e19] at a18 a18' ⊢
        refine x_cast dX9_submit_164 k16 (by omega) (by omega) (by decide) ⟨by omega, by omega⟩ (by omega) (by omega) ?_
        refine x_aload_n 0 dX9_submit_165 rfl rfl ?_
        refine x_getr (k := 24) (d := 18) dX9_submit_166 fl9_62 k_468 rfl (fun k20 => ?_)
        have k20 : isK 20 800 486 := k20
        show Ok g mX9_submit (rmd 4) (FQ g (pI (fun z M' => (¬ ((0 ≤ t ∧ t < M 468 17) ∧ 0 ≤ p ∧ p < M 468 9) ∧ M' = up M 468 0 1) ∨ ((((0 ≤ t ∧ t < M 468 17) ∧ 0 ≤ p ∧ p < M 468 9) ∧ ¬ (0 ≤ mn ∧ mn ≤ 999 ∧ (M 468 18 = 0 ∨ M 483 (M 468 18 - 1) ≤ mn))) ∧ M' = up M 468 0 2) ∨ ((((0 ≤ t ∧ t < M 468 17) ∧ 0 ≤ p ∧ p < M 468 9) ∧ (0 ≤ mn ∧ mn ≤ 999 ∧ (M 468 18 = 0 ∨ M 483 (M 468 18 - 1) ≤ mn)) ∧ M 468 18 = 40) ∧ M' = up M 468 0 3) ∨ ((((0 ≤ t ∧ t < M 468 17) ∧ 0 ≤ p ∧ p < M 468 9) ∧ (0 ≤ mn ∧ mn ≤ 999 ∧ (M 468 18 = 0 ∨ M 483 (M 468 18 - 1) ≤ mn)) ∧ M 468 18 < 40) ∧ z = M 468 18 ∧ ∃ M1 M2 b', SUBd M t p mn M1 ∧ JS M1 (M 468 18) (M 476 p) M2 ∧ RB M2 ∧ BMV M2 (M 474 p) b' 1 M' ∧ (((b (M 474 p)).1 (5 * t + p) = 45 ∧ Sol M2 t p ∧ b' = SNo (5 * t + p) (b (M 474 p))) ∨ (¬ ((b (M 474 p)).1 (5 * t + p) = 45 ∧ Sol M2 t p) ∧ b' = b (M 474 p))))))) 169 [(0, rv g 468), (1, iv t), (2, iv p), (3, iv mn), (5, iv ((M 468 18))), (6, iv k)] [rv g 486] (up M1 485 ((20 * ((M 468 18))) + k) (M 469 k))
        refine x_bipush (20) dX9_submit_169 rfl ?_
        refine x_iload 4 dX9_submit_171 rfl ?_
        refine x_imul dX9_submit_173 ?_
        refine x_iload 5 dX9_submit_174 rfl ?_
        refine x_iadd dX9_submit_176 ?_
        refine x_aload_n 0 dX9_submit_177 rfl rfl ?_
        refine x_getr (k := 3) (d := 2) dX9_submit_178 fl9_13 k_468 rfl (fun k21 => ?_)
        have k21 : isK 20 20 470 := k21
        show Ok g mX9_submit (rmd 4) (FQ g (pI (fun z M' => (¬ ((0 ≤ t ∧ t < M 468 17) ∧ 0 ≤ p ∧ p < M 468 9) ∧ M' = up M 468 0 1) ∨ ((((0 ≤ t ∧ t < M 468 17) ∧ 0 ≤ p ∧ p < M 468 9) ∧ ¬ (0 ≤ mn ∧ mn ≤ 999 ∧ (M 468 18 = 0 ∨ M 483 (M 468 18 - 1) ≤ mn))) ∧ M' = up M 468 0 2) ∨ ((((0 ≤ t ∧ t < M 468 17) ∧ 0 ≤ p ∧ p < M 468 9) ∧ (0 ≤ mn ∧ mn ≤ 999 ∧ (M 468 18 = 0 ∨ M 483 (M 468 18 - 1) ≤ mn)) ∧ M 468 18 = 40) ∧ M' = up M 468 0 3) ∨ ((((0 ≤ t ∧ t < M 468 17) ∧ 0 ≤ p ∧ p < M 468 9) ∧ (0 ≤ mn ∧ mn ≤ 999 ∧ (M 468 18 = 0 ∨ M 483 (M 468 18 - 1) ≤ mn)) ∧ M 468 18 < 40) ∧ z = M 468 18 ∧ ∃ M1 M2 b', SUBd M t p mn M1 ∧ JS M1 (M 468 18) (M 476 p) M2 ∧ RB M2 ∧ BMV M2 (M 474 p) b' 1 M' ∧ (((b (M 474 p)).1 (5 * t + p) = 45 ∧ Sol M2 t p ∧ b' = SNo (5 * t + p) (b (M 474 p))) ∨ (¬ ((b (M 474 p)).1 (5 * t + p) = 45 ∧ Sol M2 t p) ∧ b' = b (M 474 p))))))) 181 [(0, rv g 468), (1, iv t), (2, iv p), (3, iv mn), (5, iv ((M 468 18))), (6, iv k)] [rv g 470, iv ((20 * ((M 468 18))) + k), rv g 486] (up M1 485 ((20 * ((M 468 18))) + k) (M 469 k))
        refine x_iload 5 dX9_submit_181 rfl ?_
        refine x_iald dX9_submit_183 k21 (by omega) (by omega) (by decide) (fun ⟨a22, a22'⟩ => ?_)
        have e23 : (up M1 485 ((20 * ((M 468 18))) + k) (M 469 k)) 470 k = M 470 k := (Eq.trans (b := M1 470 k) (by simp (disch := omega) only [up_o, up_k]) (j1.2.2.2.2.2.2 _ _ (by unfold SBf; omega)))
        simp only [e23] at a22 a22' ⊢
        refine x_iast dX9_submit_184 k20 (by omega) (by omega) (by decide) ⟨by omega, by omega⟩ ?_
        refine x_aload_n 0 dX9_submit_185 rfl rfl ?_
        refine x_getr (k := 25) (d := 19) dX9_submit_186 fl9_65 k_468 rfl (fun k24 => ?_)
        have k24 : isK 20 800 487 := k24
        show Ok g mX9_submit (rmd 4) (FQ g (pI (fun z M' => (¬ ((0 ≤ t ∧ t < M 468 17) ∧ 0 ≤ p ∧ p < M 468 9) ∧ M' = up M 468 0 1) ∨ ((((0 ≤ t ∧ t < M 468 17) ∧ 0 ≤ p ∧ p < M 468 9) ∧ ¬ (0 ≤ mn ∧ mn ≤ 999 ∧ (M 468 18 = 0 ∨ M 483 (M 468 18 - 1) ≤ mn))) ∧ M' = up M 468 0 2) ∨ ((((0 ≤ t ∧ t < M 468 17) ∧ 0 ≤ p ∧ p < M 468 9) ∧ (0 ≤ mn ∧ mn ≤ 999 ∧ (M 468 18 = 0 ∨ M 483 (M 468 18 - 1) ≤ mn)) ∧ M 468 18 = 40) ∧ M' = up M 468 0 3) ∨ ((((0 ≤ t ∧ t < M 468 17) ∧ 0 ≤ p ∧ p < M 468 9) ∧ (0 ≤ mn ∧ mn ≤ 999 ∧ (M 468 18 = 0 ∨ M 483 (M 468 18 - 1) ≤ mn)) ∧ M 468 18 < 40) ∧ z = M 468 18 ∧ ∃ M1 M2 b', SUBd M t p mn M1 ∧ JS M1 (M 468 18) (M 476 p) M2 ∧ RB M2 ∧ BMV M2 (M 474 p) b' 1 M' ∧ (((b (M 474 p)).1 (5 * t + p) = 45 ∧ Sol M2 t p ∧ b' = SNo (5 * t + p) (b (M 474 p))) ∨ (¬ ((b (M 474 p)).1 (5 * t + p) = 45 ∧ Sol M2 t p) ∧ b' = b (M 474 p))))))) 189 [(0, rv g 468), (1, iv t), (2, iv p), (3, iv mn), (5, iv ((M 468 18))), (6, iv k)] [rv g 487] (up (up M1 485 ((20 * ((M 468 18))) + k) (M 469 k)) 486 ((20 * ((M 468 18))) + k) (M 470 k))
        refine x_bipush (20) dX9_submit_189 rfl ?_
        refine x_iload 4 dX9_submit_191 rfl ?_
        refine x_imul dX9_submit_193 ?_
        refine x_iload 5 dX9_submit_194 rfl ?_
        refine x_iadd dX9_submit_196 ?_
        refine x_aload_n 0 dX9_submit_197 rfl rfl ?_
        refine x_getr (k := 4) (d := 3) dX9_submit_198 fl9_17 k_468 rfl (fun k25 => ?_)
        have k25 : isK 20 20 471 := k25
        show Ok g mX9_submit (rmd 4) (FQ g (pI (fun z M' => (¬ ((0 ≤ t ∧ t < M 468 17) ∧ 0 ≤ p ∧ p < M 468 9) ∧ M' = up M 468 0 1) ∨ ((((0 ≤ t ∧ t < M 468 17) ∧ 0 ≤ p ∧ p < M 468 9) ∧ ¬ (0 ≤ mn ∧ mn ≤ 999 ∧ (M 468 18 = 0 ∨ M 483 (M 468 18 - 1) ≤ mn))) ∧ M' = up M 468 0 2) ∨ ((((0 ≤ t ∧ t < M 468 17) ∧ 0 ≤ p ∧ p < M 468 9) ∧ (0 ≤ mn ∧ mn ≤ 999 ∧ (M 468 18 = 0 ∨ M 483 (M 468 18 - 1) ≤ mn)) ∧ M 468 18 = 40) ∧ M' = up M 468 0 3) ∨ ((((0 ≤ t ∧ t < M 468 17) ∧ 0 ≤ p ∧ p < M 468 9) ∧ (0 ≤ mn ∧ mn ≤ 999 ∧ (M 468 18 = 0 ∨ M 483 (M 468 18 - 1) ≤ mn)) ∧ M 468 18 < 40) ∧ z = M 468 18 ∧ ∃ M1 M2 b', SUBd M t p mn M1 ∧ JS M1 (M 468 18) (M 476 p) M2 ∧ RB M2 ∧ BMV M2 (M 474 p) b' 1 M' ∧ (((b (M 474 p)).1 (5 * t + p) = 45 ∧ Sol M2 t p ∧ b' = SNo (5 * t + p) (b (M 474 p))) ∨ (¬ ((b (M 474 p)).1 (5 * t + p) = 45 ∧ Sol M2 t p) ∧ b' = b (M 474 p))))))) 201 [(0, rv g 468), (1, iv t), (2, iv p), (3, iv mn), (5, iv ((M 468 18))), (6, iv k)] [rv g 471, iv ((20 * ((M 468 18))) + k), rv g 487] (up (up M1 485 ((20 * ((M 468 18))) + k) (M 469 k)) 486 ((20 * ((M 468 18))) + k) (M 470 k))
        refine x_iload 5 dX9_submit_201 rfl ?_
        refine x_iald dX9_submit_203 k25 (by omega) (by omega) (by decide) (fun ⟨a26, a26'⟩ => ?_)
        have e27 : (up (up M1 485 ((20 * ((M 468 18))) + k) (M 469 k)) 486 ((20 * ((M 468 18))) + k) (M 470 k)) 471 k = M 471 k := (Eq.trans (b := M1 471 k) (by simp (disch := omega) only [up_o, up_k]) (j1.2.2.2.2.2.2 _ _ (by unfold SBf; omega)))
        simp only [e27] at a26 a26' ⊢
        refine x_iast dX9_submit_204 k24 (by omega) (by omega) (by decide) ⟨by omega, by omega⟩ ?_
        refine x_iinc (z := k) (lv' := [(6, iv (k + 1)), (0, rv g 468), (1, iv t), (2, iv p), (3, iv mn), (5, iv ((M 468 18)))]) 5 dX9_submit_205 rfl (Nat.le_of_ble_eq_true rfl) rfl ?_
        refine x_goto (tgt := 136) dX9_submit_208 (by decide) ?_
        refine x_sub [1, 2, 3, 4, 5, 0] rfl ?_
        exact ih_136 _ _ (by exact gd) (by omega) (by obtain ⟨s1, s2, s3, s4, s5, s6, s7⟩ := j1; refine ⟨?_, ?_, ?_, ?_, ?_, fun j x0 x1 => ?_, fun o j h => ?_⟩; exact (up_o (by omega)).trans ((up_o (by omega)).trans ((up_o (by omega)).trans s1)); exact (up_o (by omega)).trans ((up_o (by omega)).trans ((up_o (by omega)).trans s2)); exact (up_o (by omega)).trans ((up_o (by omega)).trans ((up_o (by omega)).trans s3)); exact (up_o (by omega)).trans ((up_o (by omega)).trans ((up_o (by omega)).trans s4)); exact (up_o (by omega)).trans ((up_o (by omega)).trans ((up_o (by omega)).trans s5)); by_cases e : j = k; rw [e]; refine ⟨?_, ?_, ?_⟩ <;> simp (disch := omega) only [up_o, up_s]; have h9 := s6 j x0 (by omega); refine ⟨?_, ?_, ?_⟩ <;> simp (disch := omega) only [up_o, up_k] <;> omega; unfold SBf at h; rw [up_n (by omega), up_n (by omega), up_n (by omega)]; exact s7 o j (by unfold SBf; exact h)) (by simp (disch := omega) only [up_o]; exact j2) (by omega)
  refine x_iload_n 3 dX9_submit_0 rfl rfl ?_
  refine x_iconst (0) dX9_submit_1 rfl ?_
  refine x_sipush (999) dX9_submit_2 rfl ?_
  refine x_callSIP (as := [iv mn, iv 0, iv 999]) (rest := []) dX9_submit_5 sl9_103 (c_X9_in g M mn 0 999 ⟨by omega, by omega⟩ ⟨by omega, by omega⟩ ⟨by omega, by omega⟩) rfl rfl (Nat.le_of_ble_eq_true rfl) ⟨Nat.le_of_ble_eq_true rfl, Nat.le_of_ble_eq_true rfl⟩ (fun z28 h29 => ?_)
  refine x_if_eq (tgt := 37) dX9_submit_8 (by decide) ⟨by omega, by omega⟩ (fun c31 => ?_) (fun c31 => ?_)
  · refine x_iconst (0) dX9_submit_37 rfl ?_
    refine x_istore (lv' := [(4, iv 0), (0, rv g 468), (1, iv t), (2, iv p), (3, iv mn)]) dX9_submit_38 (Nat.le_of_ble_eq_true rfl) rfl ?_
    refine x_aload_n 1 dX9_submit_40 rfl rfl ?_
    refine x_aload_n 1 dX9_submit_41 rfl rfl ?_
    refine x_iload_n 2 dX9_submit_42 rfl rfl ?_
    refine x_callVIP (as := [iv t]) (rest := [rv g 468]) dX9_submit_43 vl9_190 k_468 (c_X9_isNoTeam g M t ⟨by omega, by omega⟩ (by omega) (by omega)) rfl rfl (Nat.le_of_ble_eq_true rfl) ⟨Nat.le_of_ble_eq_true rfl, Nat.le_of_ble_eq_true rfl⟩ (fun z32 h33 => ?_)
    refine x_if_ne (tgt := 57) dX9_submit_46 (by decide) ⟨by omega, by omega⟩ (fun c35 => ?_) (fun c35 => ?_)
    · refine x_iconst (1) dX9_submit_57 rfl ?_
      refine x_goto (tgt := 84) dX9_submit_58 (by decide) ?_
      refine x_callVIP (as := [iv 1]) (rest := []) dX9_submit_84 vl9_114 k_468 (c_X9_fails g M 1 (by omega) (by omega)) rfl rfl (Nat.le_of_ble_eq_true rfl) ⟨Nat.le_of_ble_eq_true rfl, Nat.le_of_ble_eq_true rfl⟩ (fun z36 h37 => ?_)
      refine x_if_eq (tgt := 92) dX9_submit_87 (by decide) ⟨by omega, by omega⟩ (fun c39 => ?_) (fun c39 => ?_)
      · exfalso; omega
      · refine x_iconst (0) dX9_submit_90 rfl ?_
        refine x_iret dX9_submit_91 rfl rfl ?_
        exact ⟨_, rfl, Or.inl ⟨by omega, rfl⟩⟩
    · refine x_aload_n 1 dX9_submit_49 rfl rfl ?_
      refine x_iload_n 3 dX9_submit_50 rfl rfl ?_
      refine x_callVIP (as := [iv p]) (rest := [rv g 468]) dX9_submit_51 vl9_133 k_468 (c_X9_isNoProblem g M p ⟨by omega, by omega⟩ (by omega) (by omega)) rfl rfl (Nat.le_of_ble_eq_true rfl) ⟨Nat.le_of_ble_eq_true rfl, Nat.le_of_ble_eq_true rfl⟩ (fun z40 h41 => ?_)
      refine x_if_eq (tgt := 61) dX9_submit_54 (by decide) ⟨by omega, by omega⟩ (fun c43 => ?_) (fun c43 => ?_)
      · refine x_iload 0 dX9_submit_61 rfl ?_
        refine x_if_ne (tgt := 70) dX9_submit_63 (by decide) ⟨by decide, by decide⟩ (fun c44 => ?_) (fun c44 => ?_)
        · exact absurd c44 (by decide)
        · refine x_iconst (2) dX9_submit_66 rfl ?_
          refine x_goto (tgt := 84) dX9_submit_67 (by decide) ?_
          refine x_callVIP (as := [iv 2]) (rest := []) dX9_submit_84 vl9_114 k_468 (c_X9_fails g M 2 (by omega) (by omega)) rfl rfl (Nat.le_of_ble_eq_true rfl) ⟨Nat.le_of_ble_eq_true rfl, Nat.le_of_ble_eq_true rfl⟩ (fun z45 h46 => ?_)
          refine x_if_eq (tgt := 92) dX9_submit_87 (by decide) ⟨by omega, by omega⟩ (fun c48 => ?_) (fun c48 => ?_)
          · exfalso; omega
          · refine x_iconst (0) dX9_submit_90 rfl ?_
            refine x_iret dX9_submit_91 rfl rfl ?_
            exact ⟨_, rfl, Or.inr (Or.inl ⟨by omega, rfl⟩)⟩
      · refine x_iconst (1) dX9_submit_57 rfl ?_
        refine x_goto (tgt := 84) dX9_submit_58 (by decide) ?_
        refine x_callVIP (as := [iv 1]) (rest := []) dX9_submit_84 vl9_114 k_468 (c_X9_fails g M 1 (by omega) (by omega)) rfl rfl (Nat.le_of_ble_eq_true rfl) ⟨Nat.le_of_ble_eq_true rfl, Nat.le_of_ble_eq_true rfl⟩ (fun z49 h50 => ?_)
        refine x_if_eq (tgt := 92) dX9_submit_87 (by decide) ⟨by omega, by omega⟩ (fun c52 => ?_) (fun c52 => ?_)
        · exfalso; omega
        · refine x_iconst (0) dX9_submit_90 rfl ?_
          refine x_iret dX9_submit_91 rfl rfl ?_
          exact ⟨_, rfl, Or.inl ⟨by omega, rfl⟩⟩
  · refine x_aload_n 0 dX9_submit_11 rfl rfl ?_
    refine x_geti (k := 18) (kI := 18) dX9_submit_12 fl9_130 k_468 rfl rfl (fun ⟨a53, a53'⟩ => ?_)
    refine x_if_eq (tgt := 33) dX9_submit_15 (by decide) ⟨by omega, by omega⟩ (fun c54 => ?_) (fun c54 => ?_)
    · refine x_iconst (1) dX9_submit_33 rfl ?_
      refine x_goto (tgt := 38) dX9_submit_34 (by decide) ?_
      refine x_istore (lv' := [(4, iv 1), (0, rv g 468), (1, iv t), (2, iv p), (3, iv mn)]) dX9_submit_38 (Nat.le_of_ble_eq_true rfl) rfl ?_
      refine x_aload_n 1 dX9_submit_40 rfl rfl ?_
      refine x_aload_n 1 dX9_submit_41 rfl rfl ?_
      refine x_iload_n 2 dX9_submit_42 rfl rfl ?_
      refine x_callVIP (as := [iv t]) (rest := [rv g 468]) dX9_submit_43 vl9_190 k_468 (c_X9_isNoTeam g M t ⟨by omega, by omega⟩ (by omega) (by omega)) rfl rfl (Nat.le_of_ble_eq_true rfl) ⟨Nat.le_of_ble_eq_true rfl, Nat.le_of_ble_eq_true rfl⟩ (fun z55 h56 => ?_)
      refine x_if_ne (tgt := 57) dX9_submit_46 (by decide) ⟨by omega, by omega⟩ (fun c58 => ?_) (fun c58 => ?_)
      · refine x_iconst (1) dX9_submit_57 rfl ?_
        refine x_goto (tgt := 84) dX9_submit_58 (by decide) ?_
        refine x_callVIP (as := [iv 1]) (rest := []) dX9_submit_84 vl9_114 k_468 (c_X9_fails g M 1 (by omega) (by omega)) rfl rfl (Nat.le_of_ble_eq_true rfl) ⟨Nat.le_of_ble_eq_true rfl, Nat.le_of_ble_eq_true rfl⟩ (fun z59 h60 => ?_)
        refine x_if_eq (tgt := 92) dX9_submit_87 (by decide) ⟨by omega, by omega⟩ (fun c62 => ?_) (fun c62 => ?_)
        · exfalso; omega
        · refine x_iconst (0) dX9_submit_90 rfl ?_
          refine x_iret dX9_submit_91 rfl rfl ?_
          exact ⟨_, rfl, Or.inl ⟨by omega, rfl⟩⟩
      · refine x_aload_n 1 dX9_submit_49 rfl rfl ?_
        refine x_iload_n 3 dX9_submit_50 rfl rfl ?_
        refine x_callVIP (as := [iv p]) (rest := [rv g 468]) dX9_submit_51 vl9_133 k_468 (c_X9_isNoProblem g M p ⟨by omega, by omega⟩ (by omega) (by omega)) rfl rfl (Nat.le_of_ble_eq_true rfl) ⟨Nat.le_of_ble_eq_true rfl, Nat.le_of_ble_eq_true rfl⟩ (fun z63 h64 => ?_)
        refine x_if_eq (tgt := 61) dX9_submit_54 (by decide) ⟨by omega, by omega⟩ (fun c66 => ?_) (fun c66 => ?_)
        · refine x_iload 0 dX9_submit_61 rfl ?_
          refine x_if_ne (tgt := 70) dX9_submit_63 (by decide) ⟨by decide, by decide⟩ (fun c67 => ?_) (fun c67 => ?_)
          · refine x_aload_n 1 dX9_submit_70 rfl rfl ?_
            refine x_geti (k := 18) (kI := 18) dX9_submit_71 fl9_130 k_468 rfl rfl (fun ⟨a68, a68'⟩ => ?_)
            refine x_bipush (40) dX9_submit_74 rfl ?_
            refine x_icmp_ne (tgt := 83) dX9_submit_76 (by decide) ⟨by omega, by omega⟩ ⟨by decide, by decide⟩ (fun c69 => ?_) (fun c69 => ?_)
            · refine x_iconst (0) dX9_submit_83 rfl ?_
              refine x_callVIP (as := [iv 0]) (rest := []) dX9_submit_84 vl9_114 k_468 (c_X9_fails g M 0 (by omega) (by omega)) rfl rfl (Nat.le_of_ble_eq_true rfl) ⟨Nat.le_of_ble_eq_true rfl, Nat.le_of_ble_eq_true rfl⟩ (fun z70 h71 => ?_)
              refine x_if_eq (tgt := 92) dX9_submit_87 (by decide) ⟨by omega, by omega⟩ (fun c73 => ?_) (fun c73 => ?_)
              · skip
                refine x_aload_n 1 dX9_submit_92 rfl rfl ?_
                refine x_geti (k := 18) (kI := 18) dX9_submit_93 fl9_130 k_468 rfl rfl (fun ⟨a74, a74'⟩ => ?_)
                have e75 : (up M 468 0 0) 468 18 = M 468 18 := (by simp (disch := omega) only [up_s, up_o, up_k])
                simp only [e75] at a74 a74' ⊢
                refine x_istore (lv' := [(5, iv (M 468 18)), (4, iv 1), (0, rv g 468), (1, iv t), (2, iv p), (3, iv mn)]) dX9_submit_96 (Nat.le_of_ble_eq_true rfl) rfl ?_
                refine x_aload_n 2 dX9_submit_98 rfl rfl ?_
                refine x_getr (k := 19) (d := 13) dX9_submit_99 fl9_47 k_468 rfl (fun k76 => ?_)
                have k76 : isK 20 40 481 := k76
                show Ok g mX9_submit (rmd 4) (FQ g (pI (fun z M' => (¬ ((0 ≤ t ∧ t < M 468 17) ∧ 0 ≤ p ∧ p < M 468 9) ∧ M' = up M 468 0 1) ∨ ((((0 ≤ t ∧ t < M 468 17) ∧ 0 ≤ p ∧ p < M 468 9) ∧ ¬ (0 ≤ mn ∧ mn ≤ 999 ∧ (M 468 18 = 0 ∨ M 483 (M 468 18 - 1) ≤ mn))) ∧ M' = up M 468 0 2) ∨ ((((0 ≤ t ∧ t < M 468 17) ∧ 0 ≤ p ∧ p < M 468 9) ∧ (0 ≤ mn ∧ mn ≤ 999 ∧ (M 468 18 = 0 ∨ M 483 (M 468 18 - 1) ≤ mn)) ∧ M 468 18 = 40) ∧ M' = up M 468 0 3) ∨ ((((0 ≤ t ∧ t < M 468 17) ∧ 0 ≤ p ∧ p < M 468 9) ∧ (0 ≤ mn ∧ mn ≤ 999 ∧ (M 468 18 = 0 ∨ M 483 (M 468 18 - 1) ≤ mn)) ∧ M 468 18 < 40) ∧ z = M 468 18 ∧ ∃ M1 M2 b', SUBd M t p mn M1 ∧ JS M1 (M 468 18) (M 476 p) M2 ∧ RB M2 ∧ BMV M2 (M 474 p) b' 1 M' ∧ (((b (M 474 p)).1 (5 * t + p) = 45 ∧ Sol M2 t p ∧ b' = SNo (5 * t + p) (b (M 474 p))) ∨ (¬ ((b (M 474 p)).1 (5 * t + p) = 45 ∧ Sol M2 t p) ∧ b' = b (M 474 p))))))) 102 [(5, iv (M 468 18)), (4, iv 1), (0, rv g 468), (1, iv t), (2, iv p), (3, iv mn)] [rv g 481] (up M 468 0 0)
                refine x_iload 0 dX9_submit_102 rfl ?_
                refine x_iload_n 3 dX9_submit_104 rfl rfl ?_
                refine x_iast dX9_submit_105 k76 (by omega) (by omega) (by decide) ⟨by omega, by omega⟩ ?_
                refine x_aload_n 2 dX9_submit_106 rfl rfl ?_
                refine x_getr (k := 20) (d := 14) dX9_submit_107 fl9_50 k_468 rfl (fun k77 => ?_)
                have k77 : isK 20 40 482 := k77
                show Ok g mX9_submit (rmd 4) (FQ g (pI (fun z M' => (¬ ((0 ≤ t ∧ t < M 468 17) ∧ 0 ≤ p ∧ p < M 468 9) ∧ M' = up M 468 0 1) ∨ ((((0 ≤ t ∧ t < M 468 17) ∧ 0 ≤ p ∧ p < M 468 9) ∧ ¬ (0 ≤ mn ∧ mn ≤ 999 ∧ (M 468 18 = 0 ∨ M 483 (M 468 18 - 1) ≤ mn))) ∧ M' = up M 468 0 2) ∨ ((((0 ≤ t ∧ t < M 468 17) ∧ 0 ≤ p ∧ p < M 468 9) ∧ (0 ≤ mn ∧ mn ≤ 999 ∧ (M 468 18 = 0 ∨ M 483 (M 468 18 - 1) ≤ mn)) ∧ M 468 18 = 40) ∧ M' = up M 468 0 3) ∨ ((((0 ≤ t ∧ t < M 468 17) ∧ 0 ≤ p ∧ p < M 468 9) ∧ (0 ≤ mn ∧ mn ≤ 999 ∧ (M 468 18 = 0 ∨ M 483 (M 468 18 - 1) ≤ mn)) ∧ M 468 18 < 40) ∧ z = M 468 18 ∧ ∃ M1 M2 b', SUBd M t p mn M1 ∧ JS M1 (M 468 18) (M 476 p) M2 ∧ RB M2 ∧ BMV M2 (M 474 p) b' 1 M' ∧ (((b (M 474 p)).1 (5 * t + p) = 45 ∧ Sol M2 t p ∧ b' = SNo (5 * t + p) (b (M 474 p))) ∨ (¬ ((b (M 474 p)).1 (5 * t + p) = 45 ∧ Sol M2 t p) ∧ b' = b (M 474 p))))))) 110 [(5, iv (M 468 18)), (4, iv 1), (0, rv g 468), (1, iv t), (2, iv p), (3, iv mn)] [rv g 482] (up (up M 468 0 0) 481 (M 468 18) t)
                refine x_iload 0 dX9_submit_110 rfl ?_
                refine x_iload_n 4 dX9_submit_112 rfl rfl ?_
                refine x_iast dX9_submit_113 k77 (by omega) (by omega) (by decide) ⟨by omega, by omega⟩ ?_
                refine x_aload_n 2 dX9_submit_114 rfl rfl ?_
                refine x_getr (k := 21) (d := 15) dX9_submit_115 fl9_53 k_468 rfl (fun k78 => ?_)
                have k78 : isK 20 40 483 := k78
                show Ok g mX9_submit (rmd 4) (FQ g (pI (fun z M' => (¬ ((0 ≤ t ∧ t < M 468 17) ∧ 0 ≤ p ∧ p < M 468 9) ∧ M' = up M 468 0 1) ∨ ((((0 ≤ t ∧ t < M 468 17) ∧ 0 ≤ p ∧ p < M 468 9) ∧ ¬ (0 ≤ mn ∧ mn ≤ 999 ∧ (M 468 18 = 0 ∨ M 483 (M 468 18 - 1) ≤ mn))) ∧ M' = up M 468 0 2) ∨ ((((0 ≤ t ∧ t < M 468 17) ∧ 0 ≤ p ∧ p < M 468 9) ∧ (0 ≤ mn ∧ mn ≤ 999 ∧ (M 468 18 = 0 ∨ M 483 (M 468 18 - 1) ≤ mn)) ∧ M 468 18 = 40) ∧ M' = up M 468 0 3) ∨ ((((0 ≤ t ∧ t < M 468 17) ∧ 0 ≤ p ∧ p < M 468 9) ∧ (0 ≤ mn ∧ mn ≤ 999 ∧ (M 468 18 = 0 ∨ M 483 (M 468 18 - 1) ≤ mn)) ∧ M 468 18 < 40) ∧ z = M 468 18 ∧ ∃ M1 M2 b', SUBd M t p mn M1 ∧ JS M1 (M 468 18) (M 476 p) M2 ∧ RB M2 ∧ BMV M2 (M 474 p) b' 1 M' ∧ (((b (M 474 p)).1 (5 * t + p) = 45 ∧ Sol M2 t p ∧ b' = SNo (5 * t + p) (b (M 474 p))) ∨ (¬ ((b (M 474 p)).1 (5 * t + p) = 45 ∧ Sol M2 t p) ∧ b' = b (M 474 p))))))) 118 [(5, iv (M 468 18)), (4, iv 1), (0, rv g 468), (1, iv t), (2, iv p), (3, iv mn)] [rv g 483] (up (up (up M 468 0 0) 481 (M 468 18) t) 482 (M 468 18) p)
                refine x_iload 0 dX9_submit_118 rfl ?_
                refine x_iload_n 5 dX9_submit_120 rfl rfl ?_
                refine x_iast dX9_submit_121 k78 (by omega) (by omega) (by decide) ⟨by omega, by omega⟩ ?_
                refine x_aload_n 2 dX9_submit_122 rfl rfl ?_
                refine x_getr (k := 22) (d := 16) dX9_submit_123 fl9_56 k_468 rfl (fun k79 => ?_)
                have k79 : isK 20 40 484 := k79
                show Ok g mX9_submit (rmd 4) (FQ g (pI (fun z M' => (¬ ((0 ≤ t ∧ t < M 468 17) ∧ 0 ≤ p ∧ p < M 468 9) ∧ M' = up M 468 0 1) ∨ ((((0 ≤ t ∧ t < M 468 17) ∧ 0 ≤ p ∧ p < M 468 9) ∧ ¬ (0 ≤ mn ∧ mn ≤ 999 ∧ (M 468 18 = 0 ∨ M 483 (M 468 18 - 1) ≤ mn))) ∧ M' = up M 468 0 2) ∨ ((((0 ≤ t ∧ t < M 468 17) ∧ 0 ≤ p ∧ p < M 468 9) ∧ (0 ≤ mn ∧ mn ≤ 999 ∧ (M 468 18 = 0 ∨ M 483 (M 468 18 - 1) ≤ mn)) ∧ M 468 18 = 40) ∧ M' = up M 468 0 3) ∨ ((((0 ≤ t ∧ t < M 468 17) ∧ 0 ≤ p ∧ p < M 468 9) ∧ (0 ≤ mn ∧ mn ≤ 999 ∧ (M 468 18 = 0 ∨ M 483 (M 468 18 - 1) ≤ mn)) ∧ M 468 18 < 40) ∧ z = M 468 18 ∧ ∃ M1 M2 b', SUBd M t p mn M1 ∧ JS M1 (M 468 18) (M 476 p) M2 ∧ RB M2 ∧ BMV M2 (M 474 p) b' 1 M' ∧ (((b (M 474 p)).1 (5 * t + p) = 45 ∧ Sol M2 t p ∧ b' = SNo (5 * t + p) (b (M 474 p))) ∨ (¬ ((b (M 474 p)).1 (5 * t + p) = 45 ∧ Sol M2 t p) ∧ b' = b (M 474 p))))))) 126 [(5, iv (M 468 18)), (4, iv 1), (0, rv g 468), (1, iv t), (2, iv p), (3, iv mn)] [rv g 484] (up (up (up (up M 468 0 0) 481 (M 468 18) t) 482 (M 468 18) p) 483 (M 468 18) mn)
                refine x_iload 0 dX9_submit_126 rfl ?_
                refine x_aload_n 2 dX9_submit_128 rfl rfl ?_
                refine x_geti (k := 1) (kI := 1) dX9_submit_129 fl9_111 k_468 rfl rfl (fun ⟨a80, a80'⟩ => ?_)
                have e81 : (up (up (up (up M 468 0 0) 481 (M 468 18) t) 482 (M 468 18) p) 483 (M 468 18) mn) 468 1 = M 468 1 := (by simp (disch := omega) only [up_s, up_o, up_k])
                simp only [e81] at a80 a80' ⊢
                refine x_iast dX9_submit_132 k79 (by omega) (by omega) (by decide) ⟨by omega, by omega⟩ ?_
                refine x_iconst (0) dX9_submit_133 rfl ?_
                refine x_istore (lv' := [(6, iv 0), (5, iv (M 468 18)), (4, iv 1), (0, rv g 468), (1, iv t), (2, iv p), (3, iv mn)]) dX9_submit_134 (Nat.le_of_ble_eq_true rfl) rfl ?_
                refine x_sub [3, 4, 5, 6, 1, 0] rfl ?_
                exact h_136 _ _ _ (by refine ⟨⟨⟨?_, ?_⟩, ?_, ?_⟩, ⟨?_, ?_, ?_⟩, ?_⟩ <;> omega) (by omega) (by refine ⟨?_, ?_, ?_, ?_, ?_, fun k _ _ => by omega, fun o k h => ?_⟩; simp (disch := omega) only [up_o, up_k, up_s]; simp (disch := omega) only [up_o, up_k, up_s]; simp (disch := omega) only [up_o, up_k, up_s]; simp (disch := omega) only [up_o, up_k, up_s]; simp (disch := omega) only [up_o, up_k, up_s]; unfold SBf at h; rw [up_n (by omega), up_n (by omega), up_n (by omega), up_n (by omega), up_n (by omega)]) (by simp (disch := omega) only [up_o, up_k]) (Nat.lt_succ_self _)
              · refine x_iconst (0) dX9_submit_90 rfl ?_
                refine x_iret dX9_submit_91 rfl rfl ?_
                exfalso; omega
            · refine x_iconst (3) dX9_submit_79 rfl ?_
              refine x_goto (tgt := 84) dX9_submit_80 (by decide) ?_
              refine x_callVIP (as := [iv 3]) (rest := []) dX9_submit_84 vl9_114 k_468 (c_X9_fails g M 3 (by omega) (by omega)) rfl rfl (Nat.le_of_ble_eq_true rfl) ⟨Nat.le_of_ble_eq_true rfl, Nat.le_of_ble_eq_true rfl⟩ (fun z82 h83 => ?_)
              refine x_if_eq (tgt := 92) dX9_submit_87 (by decide) ⟨by omega, by omega⟩ (fun c85 => ?_) (fun c85 => ?_)
              · exfalso; omega
              · refine x_iconst (0) dX9_submit_90 rfl ?_
                refine x_iret dX9_submit_91 rfl rfl ?_
                exact ⟨_, rfl, Or.inr (Or.inr (Or.inl ⟨by omega, rfl⟩))⟩
          · exact absurd c67 (by decide)
        · refine x_iconst (1) dX9_submit_57 rfl ?_
          refine x_goto (tgt := 84) dX9_submit_58 (by decide) ?_
          refine x_callVIP (as := [iv 1]) (rest := []) dX9_submit_84 vl9_114 k_468 (c_X9_fails g M 1 (by omega) (by omega)) rfl rfl (Nat.le_of_ble_eq_true rfl) ⟨Nat.le_of_ble_eq_true rfl, Nat.le_of_ble_eq_true rfl⟩ (fun z86 h87 => ?_)
          refine x_if_eq (tgt := 92) dX9_submit_87 (by decide) ⟨by omega, by omega⟩ (fun c89 => ?_) (fun c89 => ?_)
          · exfalso; omega
          · refine x_iconst (0) dX9_submit_90 rfl ?_
            refine x_iret dX9_submit_91 rfl rfl ?_
            exact ⟨_, rfl, Or.inl ⟨by omega, rfl⟩⟩
    · refine x_iload_n 3 dX9_submit_18 rfl rfl ?_
      refine x_aload_n 0 dX9_submit_19 rfl rfl ?_
      refine x_getr (k := 21) (d := 15) dX9_submit_20 fl9_53 k_468 rfl (fun k90 => ?_)
      have k90 : isK 20 40 483 := k90
      show Ok g mX9_submit (rmd 4) (FQ g (pI (fun z M' => (¬ ((0 ≤ t ∧ t < M 468 17) ∧ 0 ≤ p ∧ p < M 468 9) ∧ M' = up M 468 0 1) ∨ ((((0 ≤ t ∧ t < M 468 17) ∧ 0 ≤ p ∧ p < M 468 9) ∧ ¬ (0 ≤ mn ∧ mn ≤ 999 ∧ (M 468 18 = 0 ∨ M 483 (M 468 18 - 1) ≤ mn))) ∧ M' = up M 468 0 2) ∨ ((((0 ≤ t ∧ t < M 468 17) ∧ 0 ≤ p ∧ p < M 468 9) ∧ (0 ≤ mn ∧ mn ≤ 999 ∧ (M 468 18 = 0 ∨ M 483 (M 468 18 - 1) ≤ mn)) ∧ M 468 18 = 40) ∧ M' = up M 468 0 3) ∨ ((((0 ≤ t ∧ t < M 468 17) ∧ 0 ≤ p ∧ p < M 468 9) ∧ (0 ≤ mn ∧ mn ≤ 999 ∧ (M 468 18 = 0 ∨ M 483 (M 468 18 - 1) ≤ mn)) ∧ M 468 18 < 40) ∧ z = M 468 18 ∧ ∃ M1 M2 b', SUBd M t p mn M1 ∧ JS M1 (M 468 18) (M 476 p) M2 ∧ RB M2 ∧ BMV M2 (M 474 p) b' 1 M' ∧ (((b (M 474 p)).1 (5 * t + p) = 45 ∧ Sol M2 t p ∧ b' = SNo (5 * t + p) (b (M 474 p))) ∨ (¬ ((b (M 474 p)).1 (5 * t + p) = 45 ∧ Sol M2 t p) ∧ b' = b (M 474 p))))))) 23 [(0, rv g 468), (1, iv t), (2, iv p), (3, iv mn)] [rv g 483, iv mn] M
      refine x_aload_n 0 dX9_submit_23 rfl rfl ?_
      refine x_geti (k := 18) (kI := 18) dX9_submit_24 fl9_130 k_468 rfl rfl (fun ⟨a91, a91'⟩ => ?_)
      refine x_iconst (1) dX9_submit_27 rfl ?_
      refine x_isub dX9_submit_28 ?_
      refine x_iald dX9_submit_29 k90 (by omega) (by omega) (by decide) (fun ⟨a92, a92'⟩ => ?_)
      refine x_icmp_lt (tgt := 37) dX9_submit_30 (by decide) ⟨by omega, by omega⟩ ⟨by omega, by omega⟩ (fun c93 => ?_) (fun c93 => ?_)
      · refine x_iconst (0) dX9_submit_37 rfl ?_
        refine x_istore (lv' := [(4, iv 0), (0, rv g 468), (1, iv t), (2, iv p), (3, iv mn)]) dX9_submit_38 (Nat.le_of_ble_eq_true rfl) rfl ?_
        refine x_aload_n 1 dX9_submit_40 rfl rfl ?_
        refine x_aload_n 1 dX9_submit_41 rfl rfl ?_
        refine x_iload_n 2 dX9_submit_42 rfl rfl ?_
        refine x_callVIP (as := [iv t]) (rest := [rv g 468]) dX9_submit_43 vl9_190 k_468 (c_X9_isNoTeam g M t ⟨by omega, by omega⟩ (by omega) (by omega)) rfl rfl (Nat.le_of_ble_eq_true rfl) ⟨Nat.le_of_ble_eq_true rfl, Nat.le_of_ble_eq_true rfl⟩ (fun z94 h95 => ?_)
        refine x_if_ne (tgt := 57) dX9_submit_46 (by decide) ⟨by omega, by omega⟩ (fun c97 => ?_) (fun c97 => ?_)
        · refine x_iconst (1) dX9_submit_57 rfl ?_
          refine x_goto (tgt := 84) dX9_submit_58 (by decide) ?_
          refine x_callVIP (as := [iv 1]) (rest := []) dX9_submit_84 vl9_114 k_468 (c_X9_fails g M 1 (by omega) (by omega)) rfl rfl (Nat.le_of_ble_eq_true rfl) ⟨Nat.le_of_ble_eq_true rfl, Nat.le_of_ble_eq_true rfl⟩ (fun z98 h99 => ?_)
          refine x_if_eq (tgt := 92) dX9_submit_87 (by decide) ⟨by omega, by omega⟩ (fun c101 => ?_) (fun c101 => ?_)
          · exfalso; omega
          · refine x_iconst (0) dX9_submit_90 rfl ?_
            refine x_iret dX9_submit_91 rfl rfl ?_
            exact ⟨_, rfl, Or.inl ⟨by omega, rfl⟩⟩
        · refine x_aload_n 1 dX9_submit_49 rfl rfl ?_
          refine x_iload_n 3 dX9_submit_50 rfl rfl ?_
          refine x_callVIP (as := [iv p]) (rest := [rv g 468]) dX9_submit_51 vl9_133 k_468 (c_X9_isNoProblem g M p ⟨by omega, by omega⟩ (by omega) (by omega)) rfl rfl (Nat.le_of_ble_eq_true rfl) ⟨Nat.le_of_ble_eq_true rfl, Nat.le_of_ble_eq_true rfl⟩ (fun z102 h103 => ?_)
          refine x_if_eq (tgt := 61) dX9_submit_54 (by decide) ⟨by omega, by omega⟩ (fun c105 => ?_) (fun c105 => ?_)
          · refine x_iload 0 dX9_submit_61 rfl ?_
            refine x_if_ne (tgt := 70) dX9_submit_63 (by decide) ⟨by decide, by decide⟩ (fun c106 => ?_) (fun c106 => ?_)
            · exact absurd c106 (by decide)
            · refine x_iconst (2) dX9_submit_66 rfl ?_
              refine x_goto (tgt := 84) dX9_submit_67 (by decide) ?_
              refine x_callVIP (as := [iv 2]) (rest := []) dX9_submit_84 vl9_114 k_468 (c_X9_fails g M 2 (by omega) (by omega)) rfl rfl (Nat.le_of_ble_eq_true rfl) ⟨Nat.le_of_ble_eq_true rfl, Nat.le_of_ble_eq_true rfl⟩ (fun z107 h108 => ?_)
              refine x_if_eq (tgt := 92) dX9_submit_87 (by decide) ⟨by omega, by omega⟩ (fun c110 => ?_) (fun c110 => ?_)
              · exfalso; omega
              · refine x_iconst (0) dX9_submit_90 rfl ?_
                refine x_iret dX9_submit_91 rfl rfl ?_
                exact ⟨_, rfl, Or.inr (Or.inl ⟨by omega, rfl⟩)⟩
          · refine x_iconst (1) dX9_submit_57 rfl ?_
            refine x_goto (tgt := 84) dX9_submit_58 (by decide) ?_
            refine x_callVIP (as := [iv 1]) (rest := []) dX9_submit_84 vl9_114 k_468 (c_X9_fails g M 1 (by omega) (by omega)) rfl rfl (Nat.le_of_ble_eq_true rfl) ⟨Nat.le_of_ble_eq_true rfl, Nat.le_of_ble_eq_true rfl⟩ (fun z111 h112 => ?_)
            refine x_if_eq (tgt := 92) dX9_submit_87 (by decide) ⟨by omega, by omega⟩ (fun c114 => ?_) (fun c114 => ?_)
            · exfalso; omega
            · refine x_iconst (0) dX9_submit_90 rfl ?_
              refine x_iret dX9_submit_91 rfl rfl ?_
              exact ⟨_, rfl, Or.inl ⟨by omega, rfl⟩⟩
      · refine x_iconst (1) dX9_submit_33 rfl ?_
        refine x_goto (tgt := 38) dX9_submit_34 (by decide) ?_
        refine x_istore (lv' := [(4, iv 1), (0, rv g 468), (1, iv t), (2, iv p), (3, iv mn)]) dX9_submit_38 (Nat.le_of_ble_eq_true rfl) rfl ?_
        refine x_aload_n 1 dX9_submit_40 rfl rfl ?_
        refine x_aload_n 1 dX9_submit_41 rfl rfl ?_
        refine x_iload_n 2 dX9_submit_42 rfl rfl ?_
        refine x_callVIP (as := [iv t]) (rest := [rv g 468]) dX9_submit_43 vl9_190 k_468 (c_X9_isNoTeam g M t ⟨by omega, by omega⟩ (by omega) (by omega)) rfl rfl (Nat.le_of_ble_eq_true rfl) ⟨Nat.le_of_ble_eq_true rfl, Nat.le_of_ble_eq_true rfl⟩ (fun z115 h116 => ?_)
        refine x_if_ne (tgt := 57) dX9_submit_46 (by decide) ⟨by omega, by omega⟩ (fun c118 => ?_) (fun c118 => ?_)
        · refine x_iconst (1) dX9_submit_57 rfl ?_
          refine x_goto (tgt := 84) dX9_submit_58 (by decide) ?_
          refine x_callVIP (as := [iv 1]) (rest := []) dX9_submit_84 vl9_114 k_468 (c_X9_fails g M 1 (by omega) (by omega)) rfl rfl (Nat.le_of_ble_eq_true rfl) ⟨Nat.le_of_ble_eq_true rfl, Nat.le_of_ble_eq_true rfl⟩ (fun z119 h120 => ?_)
          refine x_if_eq (tgt := 92) dX9_submit_87 (by decide) ⟨by omega, by omega⟩ (fun c122 => ?_) (fun c122 => ?_)
          · exfalso; omega
          · refine x_iconst (0) dX9_submit_90 rfl ?_
            refine x_iret dX9_submit_91 rfl rfl ?_
            exact ⟨_, rfl, Or.inl ⟨by omega, rfl⟩⟩
        · refine x_aload_n 1 dX9_submit_49 rfl rfl ?_
          refine x_iload_n 3 dX9_submit_50 rfl rfl ?_
          refine x_callVIP (as := [iv p]) (rest := [rv g 468]) dX9_submit_51 vl9_133 k_468 (c_X9_isNoProblem g M p ⟨by omega, by omega⟩ (by omega) (by omega)) rfl rfl (Nat.le_of_ble_eq_true rfl) ⟨Nat.le_of_ble_eq_true rfl, Nat.le_of_ble_eq_true rfl⟩ (fun z123 h124 => ?_)
          refine x_if_eq (tgt := 61) dX9_submit_54 (by decide) ⟨by omega, by omega⟩ (fun c126 => ?_) (fun c126 => ?_)
          · refine x_iload 0 dX9_submit_61 rfl ?_
            refine x_if_ne (tgt := 70) dX9_submit_63 (by decide) ⟨by decide, by decide⟩ (fun c127 => ?_) (fun c127 => ?_)
            · refine x_aload_n 1 dX9_submit_70 rfl rfl ?_
              refine x_geti (k := 18) (kI := 18) dX9_submit_71 fl9_130 k_468 rfl rfl (fun ⟨a128, a128'⟩ => ?_)
              refine x_bipush (40) dX9_submit_74 rfl ?_
              refine x_icmp_ne (tgt := 83) dX9_submit_76 (by decide) ⟨by omega, by omega⟩ ⟨by decide, by decide⟩ (fun c129 => ?_) (fun c129 => ?_)
              · refine x_iconst (0) dX9_submit_83 rfl ?_
                refine x_callVIP (as := [iv 0]) (rest := []) dX9_submit_84 vl9_114 k_468 (c_X9_fails g M 0 (by omega) (by omega)) rfl rfl (Nat.le_of_ble_eq_true rfl) ⟨Nat.le_of_ble_eq_true rfl, Nat.le_of_ble_eq_true rfl⟩ (fun z130 h131 => ?_)
                refine x_if_eq (tgt := 92) dX9_submit_87 (by decide) ⟨by omega, by omega⟩ (fun c133 => ?_) (fun c133 => ?_)
                · skip
                  refine x_aload_n 1 dX9_submit_92 rfl rfl ?_
                  refine x_geti (k := 18) (kI := 18) dX9_submit_93 fl9_130 k_468 rfl rfl (fun ⟨a134, a134'⟩ => ?_)
                  have e135 : (up M 468 0 0) 468 18 = M 468 18 := (by simp (disch := omega) only [up_s, up_o, up_k])
                  simp only [e135] at a134 a134' ⊢
                  refine x_istore (lv' := [(5, iv (M 468 18)), (4, iv 1), (0, rv g 468), (1, iv t), (2, iv p), (3, iv mn)]) dX9_submit_96 (Nat.le_of_ble_eq_true rfl) rfl ?_
                  refine x_aload_n 2 dX9_submit_98 rfl rfl ?_
                  refine x_getr (k := 19) (d := 13) dX9_submit_99 fl9_47 k_468 rfl (fun k136 => ?_)
                  have k136 : isK 20 40 481 := k136
                  show Ok g mX9_submit (rmd 4) (FQ g (pI (fun z M' => (¬ ((0 ≤ t ∧ t < M 468 17) ∧ 0 ≤ p ∧ p < M 468 9) ∧ M' = up M 468 0 1) ∨ ((((0 ≤ t ∧ t < M 468 17) ∧ 0 ≤ p ∧ p < M 468 9) ∧ ¬ (0 ≤ mn ∧ mn ≤ 999 ∧ (M 468 18 = 0 ∨ M 483 (M 468 18 - 1) ≤ mn))) ∧ M' = up M 468 0 2) ∨ ((((0 ≤ t ∧ t < M 468 17) ∧ 0 ≤ p ∧ p < M 468 9) ∧ (0 ≤ mn ∧ mn ≤ 999 ∧ (M 468 18 = 0 ∨ M 483 (M 468 18 - 1) ≤ mn)) ∧ M 468 18 = 40) ∧ M' = up M 468 0 3) ∨ ((((0 ≤ t ∧ t < M 468 17) ∧ 0 ≤ p ∧ p < M 468 9) ∧ (0 ≤ mn ∧ mn ≤ 999 ∧ (M 468 18 = 0 ∨ M 483 (M 468 18 - 1) ≤ mn)) ∧ M 468 18 < 40) ∧ z = M 468 18 ∧ ∃ M1 M2 b', SUBd M t p mn M1 ∧ JS M1 (M 468 18) (M 476 p) M2 ∧ RB M2 ∧ BMV M2 (M 474 p) b' 1 M' ∧ (((b (M 474 p)).1 (5 * t + p) = 45 ∧ Sol M2 t p ∧ b' = SNo (5 * t + p) (b (M 474 p))) ∨ (¬ ((b (M 474 p)).1 (5 * t + p) = 45 ∧ Sol M2 t p) ∧ b' = b (M 474 p))))))) 102 [(5, iv (M 468 18)), (4, iv 1), (0, rv g 468), (1, iv t), (2, iv p), (3, iv mn)] [rv g 481] (up M 468 0 0)
                  refine x_iload 0 dX9_submit_102 rfl ?_
                  refine x_iload_n 3 dX9_submit_104 rfl rfl ?_
                  refine x_iast dX9_submit_105 k136 (by omega) (by omega) (by decide) ⟨by omega, by omega⟩ ?_
                  refine x_aload_n 2 dX9_submit_106 rfl rfl ?_
                  refine x_getr (k := 20) (d := 14) dX9_submit_107 fl9_50 k_468 rfl (fun k137 => ?_)
                  have k137 : isK 20 40 482 := k137
                  show Ok g mX9_submit (rmd 4) (FQ g (pI (fun z M' => (¬ ((0 ≤ t ∧ t < M 468 17) ∧ 0 ≤ p ∧ p < M 468 9) ∧ M' = up M 468 0 1) ∨ ((((0 ≤ t ∧ t < M 468 17) ∧ 0 ≤ p ∧ p < M 468 9) ∧ ¬ (0 ≤ mn ∧ mn ≤ 999 ∧ (M 468 18 = 0 ∨ M 483 (M 468 18 - 1) ≤ mn))) ∧ M' = up M 468 0 2) ∨ ((((0 ≤ t ∧ t < M 468 17) ∧ 0 ≤ p ∧ p < M 468 9) ∧ (0 ≤ mn ∧ mn ≤ 999 ∧ (M 468 18 = 0 ∨ M 483 (M 468 18 - 1) ≤ mn)) ∧ M 468 18 = 40) ∧ M' = up M 468 0 3) ∨ ((((0 ≤ t ∧ t < M 468 17) ∧ 0 ≤ p ∧ p < M 468 9) ∧ (0 ≤ mn ∧ mn ≤ 999 ∧ (M 468 18 = 0 ∨ M 483 (M 468 18 - 1) ≤ mn)) ∧ M 468 18 < 40) ∧ z = M 468 18 ∧ ∃ M1 M2 b', SUBd M t p mn M1 ∧ JS M1 (M 468 18) (M 476 p) M2 ∧ RB M2 ∧ BMV M2 (M 474 p) b' 1 M' ∧ (((b (M 474 p)).1 (5 * t + p) = 45 ∧ Sol M2 t p ∧ b' = SNo (5 * t + p) (b (M 474 p))) ∨ (¬ ((b (M 474 p)).1 (5 * t + p) = 45 ∧ Sol M2 t p) ∧ b' = b (M 474 p))))))) 110 [(5, iv (M 468 18)), (4, iv 1), (0, rv g 468), (1, iv t), (2, iv p), (3, iv mn)] [rv g 482] (up (up M 468 0 0) 481 (M 468 18) t)
                  refine x_iload 0 dX9_submit_110 rfl ?_
                  refine x_iload_n 4 dX9_submit_112 rfl rfl ?_
                  refine x_iast dX9_submit_113 k137 (by omega) (by omega) (by decide) ⟨by omega, by omega⟩ ?_
                  refine x_aload_n 2 dX9_submit_114 rfl rfl ?_
                  refine x_getr (k := 21) (d := 15) dX9_submit_115 fl9_53 k_468 rfl (fun k138 => ?_)
                  have k138 : isK 20 40 483 := k138
                  show Ok g mX9_submit (rmd 4) (FQ g (pI (fun z M' => (¬ ((0 ≤ t ∧ t < M 468 17) ∧ 0 ≤ p ∧ p < M 468 9) ∧ M' = up M 468 0 1) ∨ ((((0 ≤ t ∧ t < M 468 17) ∧ 0 ≤ p ∧ p < M 468 9) ∧ ¬ (0 ≤ mn ∧ mn ≤ 999 ∧ (M 468 18 = 0 ∨ M 483 (M 468 18 - 1) ≤ mn))) ∧ M' = up M 468 0 2) ∨ ((((0 ≤ t ∧ t < M 468 17) ∧ 0 ≤ p ∧ p < M 468 9) ∧ (0 ≤ mn ∧ mn ≤ 999 ∧ (M 468 18 = 0 ∨ M 483 (M 468 18 - 1) ≤ mn)) ∧ M 468 18 = 40) ∧ M' = up M 468 0 3) ∨ ((((0 ≤ t ∧ t < M 468 17) ∧ 0 ≤ p ∧ p < M 468 9) ∧ (0 ≤ mn ∧ mn ≤ 999 ∧ (M 468 18 = 0 ∨ M 483 (M 468 18 - 1) ≤ mn)) ∧ M 468 18 < 40) ∧ z = M 468 18 ∧ ∃ M1 M2 b', SUBd M t p mn M1 ∧ JS M1 (M 468 18) (M 476 p) M2 ∧ RB M2 ∧ BMV M2 (M 474 p) b' 1 M' ∧ (((b (M 474 p)).1 (5 * t + p) = 45 ∧ Sol M2 t p ∧ b' = SNo (5 * t + p) (b (M 474 p))) ∨ (¬ ((b (M 474 p)).1 (5 * t + p) = 45 ∧ Sol M2 t p) ∧ b' = b (M 474 p))))))) 118 [(5, iv (M 468 18)), (4, iv 1), (0, rv g 468), (1, iv t), (2, iv p), (3, iv mn)] [rv g 483] (up (up (up M 468 0 0) 481 (M 468 18) t) 482 (M 468 18) p)
                  refine x_iload 0 dX9_submit_118 rfl ?_
                  refine x_iload_n 5 dX9_submit_120 rfl rfl ?_
                  refine x_iast dX9_submit_121 k138 (by omega) (by omega) (by decide) ⟨by omega, by omega⟩ ?_
                  refine x_aload_n 2 dX9_submit_122 rfl rfl ?_
                  refine x_getr (k := 22) (d := 16) dX9_submit_123 fl9_56 k_468 rfl (fun k139 => ?_)
                  have k139 : isK 20 40 484 := k139
                  show Ok g mX9_submit (rmd 4) (FQ g (pI (fun z M' => (¬ ((0 ≤ t ∧ t < M 468 17) ∧ 0 ≤ p ∧ p < M 468 9) ∧ M' = up M 468 0 1) ∨ ((((0 ≤ t ∧ t < M 468 17) ∧ 0 ≤ p ∧ p < M 468 9) ∧ ¬ (0 ≤ mn ∧ mn ≤ 999 ∧ (M 468 18 = 0 ∨ M 483 (M 468 18 - 1) ≤ mn))) ∧ M' = up M 468 0 2) ∨ ((((0 ≤ t ∧ t < M 468 17) ∧ 0 ≤ p ∧ p < M 468 9) ∧ (0 ≤ mn ∧ mn ≤ 999 ∧ (M 468 18 = 0 ∨ M 483 (M 468 18 - 1) ≤ mn)) ∧ M 468 18 = 40) ∧ M' = up M 468 0 3) ∨ ((((0 ≤ t ∧ t < M 468 17) ∧ 0 ≤ p ∧ p < M 468 9) ∧ (0 ≤ mn ∧ mn ≤ 999 ∧ (M 468 18 = 0 ∨ M 483 (M 468 18 - 1) ≤ mn)) ∧ M 468 18 < 40) ∧ z = M 468 18 ∧ ∃ M1 M2 b', SUBd M t p mn M1 ∧ JS M1 (M 468 18) (M 476 p) M2 ∧ RB M2 ∧ BMV M2 (M 474 p) b' 1 M' ∧ (((b (M 474 p)).1 (5 * t + p) = 45 ∧ Sol M2 t p ∧ b' = SNo (5 * t + p) (b (M 474 p))) ∨ (¬ ((b (M 474 p)).1 (5 * t + p) = 45 ∧ Sol M2 t p) ∧ b' = b (M 474 p))))))) 126 [(5, iv (M 468 18)), (4, iv 1), (0, rv g 468), (1, iv t), (2, iv p), (3, iv mn)] [rv g 484] (up (up (up (up M 468 0 0) 481 (M 468 18) t) 482 (M 468 18) p) 483 (M 468 18) mn)
                  refine x_iload 0 dX9_submit_126 rfl ?_
                  refine x_aload_n 2 dX9_submit_128 rfl rfl ?_
                  refine x_geti (k := 1) (kI := 1) dX9_submit_129 fl9_111 k_468 rfl rfl (fun ⟨a140, a140'⟩ => ?_)
                  have e141 : (up (up (up (up M 468 0 0) 481 (M 468 18) t) 482 (M 468 18) p) 483 (M 468 18) mn) 468 1 = M 468 1 := (by simp (disch := omega) only [up_s, up_o, up_k])
                  simp only [e141] at a140 a140' ⊢
                  refine x_iast dX9_submit_132 k139 (by omega) (by omega) (by decide) ⟨by omega, by omega⟩ ?_
                  refine x_iconst (0) dX9_submit_133 rfl ?_
                  refine x_istore (lv' := [(6, iv 0), (5, iv (M 468 18)), (4, iv 1), (0, rv g 468), (1, iv t), (2, iv p), (3, iv mn)]) dX9_submit_134 (Nat.le_of_ble_eq_true rfl) rfl ?_
                  refine x_sub [3, 4, 5, 6, 1, 0] rfl ?_
                  exact h_136 _ _ _ (by refine ⟨⟨⟨?_, ?_⟩, ?_, ?_⟩, ⟨?_, ?_, ?_⟩, ?_⟩ <;> omega) (by omega) (by refine ⟨?_, ?_, ?_, ?_, ?_, fun k _ _ => by omega, fun o k h => ?_⟩; simp (disch := omega) only [up_o, up_k, up_s]; simp (disch := omega) only [up_o, up_k, up_s]; simp (disch := omega) only [up_o, up_k, up_s]; simp (disch := omega) only [up_o, up_k, up_s]; simp (disch := omega) only [up_o, up_k, up_s]; unfold SBf at h; rw [up_n (by omega), up_n (by omega), up_n (by omega), up_n (by omega), up_n (by omega)]) (by simp (disch := omega) only [up_o, up_k]) (Nat.lt_succ_self _)
                · refine x_iconst (0) dX9_submit_90 rfl ?_
                  refine x_iret dX9_submit_91 rfl rfl ?_
                  exfalso; omega
              · refine x_iconst (3) dX9_submit_79 rfl ?_
                refine x_goto (tgt := 84) dX9_submit_80 (by decide) ?_
                refine x_callVIP (as := [iv 3]) (rest := []) dX9_submit_84 vl9_114 k_468 (c_X9_fails g M 3 (by omega) (by omega)) rfl rfl (Nat.le_of_ble_eq_true rfl) ⟨Nat.le_of_ble_eq_true rfl, Nat.le_of_ble_eq_true rfl⟩ (fun z142 h143 => ?_)
                refine x_if_eq (tgt := 92) dX9_submit_87 (by decide) ⟨by omega, by omega⟩ (fun c145 => ?_) (fun c145 => ?_)
                · exfalso; omega
                · refine x_iconst (0) dX9_submit_90 rfl ?_
                  refine x_iret dX9_submit_91 rfl rfl ?_
                  exact ⟨_, rfl, Or.inr (Or.inr (Or.inl ⟨by omega, rfl⟩))⟩
            · exact absurd c127 (by decide)
          · refine x_iconst (1) dX9_submit_57 rfl ?_
            refine x_goto (tgt := 84) dX9_submit_58 (by decide) ?_
            refine x_callVIP (as := [iv 1]) (rest := []) dX9_submit_84 vl9_114 k_468 (c_X9_fails g M 1 (by omega) (by omega)) rfl rfl (Nat.le_of_ble_eq_true rfl) ⟨Nat.le_of_ble_eq_true rfl, Nat.le_of_ble_eq_true rfl⟩ (fun z146 h147 => ?_)
            refine x_if_eq (tgt := 92) dX9_submit_87 (by decide) ⟨by omega, by omega⟩ (fun c149 => ?_) (fun c149 => ?_)
            · exfalso; omega
            · refine x_iconst (0) dX9_submit_90 rfl ?_
              refine x_iret dX9_submit_91 rfl rfl ?_
              exact ⟨_, rfl, Or.inl ⟨by omega, rfl⟩⟩
