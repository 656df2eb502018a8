set_option maxHeartbeats 600000 in
set_option maxRecDepth 100000 in
theorem c_X8_judgeByAll (g : GG) (M : Mem) (r p n : Int) (r0 : 0 ≤ r) (r1 : r < 40) (hp : M (8 * r + 148) 5 = p) (p0 : 0 ≤ p) (p1 : p < 5) (hn : M (20 * p + 48) 3 = n) (n0 : 0 ≤ n ∧ n ≤ 6) (hPG : PG M (8 * r + 149)) (hNU : ∀ t, 0 ≤ t → t < n → NU M (20 * p + 3 * t + 50)) (hl : 1 ≤ M (20 * p + 48) 2 ∧ M (20 * p + 48) 2 ≤ 400) (hI : SI M (-1)) : Ct g yX8_judgeByAll cX8_judgeByAll 4 none 5 [rv g 0, rv g (8 * r + 148)] M (pV (fun M' => JBA M r n M')) := by
  refine ct_of (by decide +kernel) (Nat.le_of_ble_eq_true rfl) ?_
  show Ok g mX8_judgeByAll (rmd 5) (FQ g (pV (fun M' => JBA M r n M'))) 0 [(0, rv g 0), (1, rv g (8 * r + 148))] [] M
  have h_8 : ∀ (n_8 : Nat) (M1 : Mem) (t : Int) (z : Int), (z = n) → (0 ≤ t ∧ t ≤ n) → (∀ o k, ¬ (10 ≤ o ∧ o ≤ 16) → ¬ (8 * r + 153 ≤ o ∧ o ≤ 8 * r + 155 ∧ 0 ≤ k ∧ k < n) → M1 o k = M o k) → (SI M1 (-1)) → (∀ u, 0 ≤ u → u < t → DK M1 r u) → (∀ q u, 0 ≤ q → q < 40 → 0 ≤ u → u < 6 → 0 ≤ M (8 * q + 148) 5 → M (8 * q + 148) 5 < 5 → q ≠ r → DK M q u → DK M1 q u) → (n - t).toNat < n_8 → Ok g mX8_judgeByAll (rmd 5) (FQ g (pV (fun M' => JBA M r n M'))) 8 [(0, rv g 0), (1, rv g (8 * r + 148)), (2, iv z), (3, iv t)] [] M1 := by
    intro n_8
    induction n_8 with
    | zero => intro M1 t z jz j0 j1 j2 j3 j4 hn_8; exact absurd hn_8 (Nat.not_lt_zero _)
    | succ n_8 ih_8 =>
      intro M1 t z jz j0 j1 j2 j3 j4 hn_8
      refine x_iload_n 3 dX8_judgeByAll_8 rfl rfl ?_
      refine x_iload_n 2 dX8_judgeByAll_9 rfl rfl ?_
      refine x_icmp_ge (tgt := 25) dX8_judgeByAll_10 (by decide) ⟨by omega, by omega⟩ ⟨by omega, by omega⟩ (fun c1 => ?_) (fun c1 => ?_)
      · refine x_aload_n 1 dX8_judgeByAll_25 rfl rfl ?_
        refine x_iload_n 2 dX8_judgeByAll_26 rfl rfl ?_
        refine x_callVV (as := [iv z]) (rest := []) dX8_judgeByAll_27 vl8_333 (k_run r0 r1) (c_X6_conclude g M1 (8 * r + 148) z (k_run r0 r1) (by omega) (fun q q0 q1 => by rw [show (8 * r + 148 : Int) + 5 = 8 * r + 153 by omega]; have h4 := (j3 q q0 (by omega)).2.2.2.1; omega)) rfl rfl (Nat.le_of_ble_eq_true rfl) ⟨Nat.le_of_ble_eq_true rfl, Nat.le_of_ble_eq_true rfl⟩ (fun M4 h3 => ?_)
        have hc := h3
        simp only [show (8 * r + 148 : Int) + 5 = 8 * r + 153 by omega] at hc
        refine x_vret dX8_judgeByAll_30 rfl ?_
        rw [hc]
        rw [show t = n by omega] at j3
        rw [jz]
        refine ⟨rfl, fun o k h1 h2 h3 => ?_, j2.con r0, fun u u0 u1 => ?_, fun q u q0 q1 u0 u1 h0 h1 hne h => ?_, ?_, ?_⟩
        · rw [up_n (by omega), up_n (by omega)]; exact j1 o k h1 h2
        · exact (j3 u u0 u1).con r0 r0 u0 (by omega) (by rw [j1 _ _ (by omega) (by omega)]; omega) (by rw [j1 _ _ (by omega) (by omega)]; omega)
        · exact (j4 q u q0 q1 u0 u1 h0 h1 hne h).con r0 q0 u0 u1 (by rw [j1 _ _ (by omega) (by omega)]; exact h0) (by rw [j1 _ _ (by omega) (by omega)]; exact h1)
        · simp (disch := omega) only [up_o, up_k, up_s]; rfl
        · simp (disch := omega) only [up_o, up_s]
      · refine x_aload_n 0 dX8_judgeByAll_13 rfl rfl ?_
        refine x_aload_n 1 dX8_judgeByAll_14 rfl rfl ?_
        refine x_iload_n 3 dX8_judgeByAll_15 rfl rfl ?_
        refine x_callVV (as := [rv g (8 * r + 148), iv t]) (rest := []) dX8_judgeByAll_16 vl8_329 k_0 (c_X8_judge g M1 r t p r0 r1 (by omega) (by omega) (by rw [j1 _ _ (by omega) (by omega)]; exact hp) p0 p1 (hPG.cong (fun a k h => j1 a k (by omega) (by omega))) ((hNU t (by omega) (by omega)).cong (fun a k h => j1 a k (by omega) (by omega))) (by rw [j1 _ _ (by omega) (by omega)]; exact hl) j2) rfl rfl (Nat.le_of_ble_eq_true rfl) ⟨Nat.le_of_ble_eq_true rfl, Nat.le_of_ble_eq_true rfl⟩ (fun M7 h6 => ?_)
        have hg := h6
        have hd := hg.dk r0 p0 (by omega) (by omega) (by rw [j1 _ _ (by omega) (by omega)]; exact hp) (hPG.cong (fun a k h => j1 a k (by omega) (by omega))) ((hNU t (by omega) (by omega)).cong (fun a k h => j1 a k (by omega) (by omega))) p1
        have hf : ∀ o k, ¬ (10 ≤ o ∧ o ≤ 16) → ¬ (8 * r + 153 ≤ o ∧ o ≤ 8 * r + 155 ∧ 0 ≤ k ∧ k < n) → M7 o k = M o k := fun o k h1 h2 => (hg.1 o k h1 (by omega)).trans (j1 o k h1 h2)
        refine x_iinc (z := t) (lv' := [(3, iv (t + 1)), (0, rv g 0), (1, rv g (8 * r + 148)), (2, iv z)]) 3 dX8_judgeByAll_19 rfl (Nat.le_of_ble_eq_true rfl) rfl ?_
        refine x_goto (tgt := 8) dX8_judgeByAll_22 (by decide) ?_
        refine x_sub [1, 2, 3, 0] rfl ?_
        exact ih_8 _ _ _ (by exact jz) (by omega) (by exact hf) (by exact hg.2.1) (by intro u u0 u1; rcases Int.lt_or_eq_of_le (show u ≤ t by omega) with e | e; exact hg.oth (j3 u u0 e) r0 r0 r1 (by omega) (by omega) u0 (by omega) (by rw [j1 _ _ (by omega) (by omega)]; omega) (by rw [j1 _ _ (by omega) (by omega)]; omega) (by omega); rw [e]; exact hd) (by intro q u q0 q1 u0 u1 h0 h1 hne h; exact hg.oth (j4 q u q0 q1 u0 u1 h0 h1 hne h) r0 q0 q1 (by omega) (by omega) u0 u1 (by rw [j1 _ _ (by omega) (by omega)]; exact h0) (by rw [j1 _ _ (by omega) (by omega)]; exact h1) (by omega)) (by omega)
  refine x_aload_n 0 dX8_judgeByAll_0 rfl rfl ?_
  refine x_aload_n 1 dX8_judgeByAll_1 rfl rfl ?_
  refine x_callVIP (as := [rv g (8 * r + 148)]) (rest := []) dX8_judgeByAll_2 vl8_295 k_0 (c_X8_testCountOf g M r r0 r1 (by omega) (by omega)) rfl rfl (Nat.le_of_ble_eq_true rfl) ⟨Nat.le_of_ble_eq_true rfl, Nat.le_of_ble_eq_true rfl⟩ (fun z8 h9 => ?_)
  have htc := h9
  rw [hp, hn] at htc
  refine x_istore_n (lv' := [(2, iv z8), (0, rv g 0), (1, rv g (8 * r + 148))]) dX8_judgeByAll_5 rfl (Nat.le_of_ble_eq_true rfl) rfl ?_
  refine x_iconst (0) dX8_judgeByAll_6 rfl ?_
  refine x_istore_n (lv' := [(3, iv 0), (2, iv z8), (0, rv g 0), (1, rv g (8 * r + 148))]) dX8_judgeByAll_7 rfl (Nat.le_of_ble_eq_true rfl) rfl ?_
  refine x_sub [2, 3, 1, 0] rfl ?_
  exact h_8 _ _ _ _ (by omega) (by omega) (by intro o k _ _; rfl) (by exact hI) (by intro u _ _; omega) (by intro q u _ _ _ _ _ _ _ h; exact h) (Nat.lt_succ_self _)
