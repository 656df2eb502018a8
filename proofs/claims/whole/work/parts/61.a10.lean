set_option maxHeartbeats 600000 in
set_option maxRecDepth 100000 in
theorem c_X0_leaveQueue (g : GG) (M : Mem) (x c : Int) (b : BSt) (c0 : 0 ≤ c ∧ c < 4) (x0 : 0 ≤ x ∧ x < 40) (hq : QL M c b.2.1) (hn : QN b) : Ct g yX0_leaveQueue cX0_leaveQueue 4 none 1 [rv g 17, iv x, iv c] M (pV (fun M' => (∀ o k, o ≠ c + 20 → ¬ (o = 24 ∧ k = c) → M' o k = M o k) ∧ QL M' c (b.2.1.filter (fun y => decide (y ≠ x))))) := by
  refine ct_of (by decide +kernel) (Nat.le_of_ble_eq_true rfl) ?_
  show Ok g mX0_leaveQueue (rmd 1) (FQ g (pV (fun M' => (∀ o k, o ≠ c + 20 → ¬ (o = 24 ∧ k = c) → M' o k = M o k) ∧ QL M' c (b.2.1.filter (fun y => decide (y ≠ x)))))) 0 [(0, rv g 17), (1, iv x), (2, iv c)] [] M
  have r6 := hq.1
  have r7 := hn.len
  have h_2 : ∀ (n_2 : Nat) (i : Int), (0 ≤ i ∧ i ≤ M 24 c) → (∀ j, 0 ≤ j → j < i → M (c + 20) j ≠ x) → (M 24 c - i).toNat < n_2 → Ok g mX0_leaveQueue (rmd 1) (FQ g (pV (fun M' => (∀ o k, o ≠ c + 20 → ¬ (o = 24 ∧ k = c) → M' o k = M o k) ∧ QL M' c (b.2.1.filter (fun y => decide (y ≠ x)))))) 2 [(0, rv g 17), (1, iv x), (2, iv c), (3, iv i)] [] M := by
    intro n_2
    induction n_2 with
    | zero => intro i j0 j1 hn_2; exact absurd hn_2 (Nat.not_lt_zero _)
    | succ n_2 ih_2 =>
      intro i j0 j1 hn_2
      refine x_iload_n 3 dX0_leaveQueue_2 rfl rfl ?_
      refine x_aload_n 0 dX0_leaveQueue_3 rfl rfl ?_
      refine x_getr (k := 2) (d := 7) dX0_leaveQueue_4 fl0_20 k_17 rfl (fun k1 => ?_)
      have k1 : isK 20 4 24 := k1
      show Ok g mX0_leaveQueue (rmd 1) (FQ g (pV (fun M' => (∀ o k, o ≠ c + 20 → ¬ (o = 24 ∧ k = c) → M' o k = M o k) ∧ QL M' c (b.2.1.filter (fun y => decide (y ≠ x)))))) 7 [(0, rv g 17), (1, iv x), (2, iv c), (3, iv i)] [rv g 24, iv i] M
      refine x_iload_n 2 dX0_leaveQueue_7 rfl rfl ?_
      refine x_iald dX0_leaveQueue_8 k1 (by omega) (by omega) (by decide) (fun ⟨a2, a2'⟩ => ?_)
      refine x_icmp_ge (tgt := 38) dX0_leaveQueue_9 (by decide) ⟨by omega, by omega⟩ ⟨by omega, by omega⟩ (fun c3 => ?_) (fun c3 => ?_)
      · refine x_vret dX0_leaveQueue_38 rfl ?_
        refine ⟨rfl, fun _ _ _ _ => rfl, ?_⟩
        rw [hq.gone (fun j x0 x1 => j1 j x0 (by omega))]
        exact hq
      · refine x_aload_n 0 dX0_leaveQueue_12 rfl rfl ?_
        refine x_getr (k := 1) (d := 2) dX0_leaveQueue_13 fl0_17 k_17 rfl (fun k4 => ?_)
        have k4 : isK 33 4 19 := k4
        show Ok g mX0_leaveQueue (rmd 1) (FQ g (pV (fun M' => (∀ o k, o ≠ c + 20 → ¬ (o = 24 ∧ k = c) → M' o k = M o k) ∧ QL M' c (b.2.1.filter (fun y => decide (y ≠ x)))))) 16 [(0, rv g 17), (1, iv x), (2, iv c), (3, iv i)] [rv g 19] M
        refine x_iload_n 2 dX0_leaveQueue_16 rfl rfl ?_
        refine x_aald33 dX0_leaveQueue_17 k4 (by omega) (by omega) (by decide) (fun k5 => ?_)
        have ek5 : 19 + (1 + c) = c + 20 := by omega
        rw [ek5] at k5 ⊢
        refine x_iload_n 3 dX0_leaveQueue_18 rfl rfl ?_
        refine x_iald dX0_leaveQueue_19 k5 (by omega) (by omega) (by decide) (fun ⟨a6, a6'⟩ => ?_)
        refine x_iload_n 1 dX0_leaveQueue_20 rfl rfl ?_
        refine x_icmp_ne (tgt := 32) dX0_leaveQueue_21 (by decide) ⟨by omega, by omega⟩ ⟨by omega, by omega⟩ (fun c7 => ?_) (fun c7 => ?_)
        · refine x_iinc (z := i) (lv' := [(3, iv (i + 1)), (0, rv g 17), (1, iv x), (2, iv c)]) 3 dX0_leaveQueue_32 rfl (Nat.le_of_ble_eq_true rfl) rfl ?_
          refine x_goto (tgt := 2) dX0_leaveQueue_35 (by decide) ?_
          refine x_sub [1, 2, 3, 0] rfl ?_
          exact ih_2 _ (by omega) (by exact ext_lt j1 (by omega)) (by omega)
        · refine x_aload_n 0 dX0_leaveQueue_24 rfl rfl ?_
          refine x_iload_n 2 dX0_leaveQueue_25 rfl rfl ?_
          refine x_iload_n 3 dX0_leaveQueue_26 rfl rfl ?_
          refine x_iconst (1) dX0_leaveQueue_27 rfl ?_
          refine x_callVV (as := [iv c, iv i, iv 1]) (rest := []) dX0_leaveQueue_28 vl0_58 k_17 (c_X0_dropFromQueue g M c i 1 c0 (by omega)) rfl rfl (Nat.le_of_ble_eq_true rfl) ⟨Nat.le_of_ble_eq_true rfl, Nat.le_of_ble_eq_true rfl⟩ (fun M10 h9 => ?_)
          have hd := h9
          refine x_vret dX0_leaveQueue_31 rfl ?_
          exact ⟨rfl, hd.1, hq.leave hn.1 (by omega) (by omega) (by omega) hd⟩
  refine x_iconst (0) dX0_leaveQueue_0 rfl ?_
  refine x_istore_n (lv' := [(3, iv 0), (0, rv g 17), (1, iv x), (2, iv c)]) dX0_leaveQueue_1 rfl (Nat.le_of_ble_eq_true rfl) rfl ?_
  refine x_sub [1, 2, 3, 0] rfl ?_
  exact h_2 _ _ (by omega) (by intro j _ _; omega) (Nat.lt_succ_self _)

set_option maxHeartbeats 600000 in
set_option maxRecDepth 100000 in
theorem c_X0_takeAway (g : GG) (M : Mem) (x c : Int) (b : BSt) (c0 : 0 ≤ c ∧ c < 4) (x0 : 0 ≤ x ∧ x < 40) (hb : RAb M c b) (hq : QS 100000 b) : Ct g yX0_takeAway cX0_takeAway 3 none 2 [rv g 17, iv x, iv c] M (pV (fun M' => FRb M c M' ∧ RAb M' c (TKo x b))) := by
  refine ct_of (by decide +kernel) (Nat.le_of_ble_eq_true rfl) ?_
  show Ok g mX0_takeAway (rmd 2) (FQ g (pV (fun M' => FRb M c M' ∧ RAb M' c (TKo x b)))) 0 [(0, rv g 17), (1, iv x), (2, iv c)] [] M
  obtain ⟨r1, r2, r3, r4, r5⟩ := id hb
  have r6 := r2.1
  have r7 := hq.1.len
  obtain ⟨q1, q2, q3⟩ := hq.2.1
  have q4 := hq.2.2 x
  have q5 := r1 x x0.1 x0.2
  refine x_aload_n 0 dX0_takeAway_0 rfl rfl ?_
  refine x_getr (k := 0) (d := 1) dX0_takeAway_1 fl0_9 k_17 rfl (fun k1 => ?_)
  have k1 : isK 21 40 18 := k1
  show Ok g mX0_takeAway (rmd 2) (FQ g (pV (fun M' => FRb M c M' ∧ RAb M' c (TKo x b)))) 4 [(0, rv g 17), (1, iv x), (2, iv c)] [rv g 18] M
  refine x_iload_n 1 dX0_takeAway_4 rfl rfl ?_
  refine x_cald dX0_takeAway_5 k1 (by omega) (by omega) (by decide) (fun ⟨a2, a2'⟩ => ?_)
  refine x_bipush (111) dX0_takeAway_6 rfl ?_
  refine x_icmp_ne (tgt := 44) dX0_takeAway_8 (by decide) ⟨by omega, by omega⟩ ⟨by decide, by decide⟩ (fun c3 => ?_) (fun c3 => ?_)
  · refine x_aload_n 0 dX0_takeAway_44 rfl rfl ?_
    refine x_getr (k := 0) (d := 1) dX0_takeAway_45 fl0_9 k_17 rfl (fun k4 => ?_)
    have k4 : isK 21 40 18 := k4
    show Ok g mX0_takeAway (rmd 2) (FQ g (pV (fun M' => FRb M c M' ∧ RAb M' c (TKo x b)))) 48 [(0, rv g 17), (1, iv x), (2, iv c)] [rv g 18] M
    refine x_iload_n 1 dX0_takeAway_48 rfl rfl ?_
    refine x_cald dX0_takeAway_49 k4 (by omega) (by omega) (by decide) (fun ⟨a5, a5'⟩ => ?_)
    refine x_bipush (113) dX0_takeAway_50 rfl ?_
    refine x_icmp_ne (tgt := 61) dX0_takeAway_52 (by decide) ⟨by omega, by omega⟩ ⟨by decide, by decide⟩ (fun c6 => ?_) (fun c6 => ?_)
    · refine x_aload_n 0 dX0_takeAway_61 rfl rfl ?_
      refine x_getr (k := 0) (d := 1) dX0_takeAway_62 fl0_9 k_17 rfl (fun k7 => ?_)
      have k7 : isK 21 40 18 := k7
      show Ok g mX0_takeAway (rmd 2) (FQ g (pV (fun M' => FRb M c M' ∧ RAb M' c (TKo x b)))) 65 [(0, rv g 17), (1, iv x), (2, iv c)] [rv g 18] M
      refine x_iload_n 1 dX0_takeAway_65 rfl rfl ?_
      refine x_bipush (45) dX0_takeAway_66 rfl ?_
      refine x_cast dX0_takeAway_68 k7 (by omega) (by omega) (by decide) ⟨by decide, by decide⟩ (by omega) (by omega) ?_
      refine x_vret dX0_takeAway_69 rfl ?_
      have e1 : b.1 x = 45 := by omega
      refine ⟨rfl, fun o k a1 a2 a3 a4 => up_o (by omega), ?_⟩
      unfold TKo
      rw [if_neg (by omega), if_neg (by omega)]
      refine ⟨fun y y0 y1 => ?_, ⟨?_, fun k y hk => ?_⟩, ?_, ?_, ?_⟩
      · by_cases e : y = x
        · rw [e, up_s]; omega
        · rw [up_k e]; exact r1 y y0 y1
      · simp (disch := omega) only [up_o]; exact r2.1
      · simp (disch := omega) only [up_o]; exact r2.2 k y hk
      · simp (disch := omega) only [up_o]; exact r3
      · simp (disch := omega) only [up_o]; exact r4
      · simp (disch := omega) only [up_o]; exact r5
    · refine x_aload_n 0 dX0_takeAway_55 rfl rfl ?_
      refine x_iload_n 1 dX0_takeAway_56 rfl rfl ?_
      refine x_iload_n 2 dX0_takeAway_57 rfl rfl ?_
      refine x_callVV (as := [iv x, iv c]) (rest := []) dX0_takeAway_58 vl0_62 k_17 (c_X0_leaveQueue g M x c b c0 x0 r2 hq.1) rfl rfl (Nat.le_of_ble_eq_true rfl) ⟨Nat.le_of_ble_eq_true rfl, Nat.le_of_ble_eq_true rfl⟩ (fun M10 h9 => ?_)
      have hd := h9
      refine x_aload_n 0 dX0_takeAway_61 rfl rfl ?_
      refine x_getr (k := 0) (d := 1) dX0_takeAway_62 fl0_9 k_17 rfl (fun k11 => ?_)
      have k11 : isK 21 40 18 := k11
      show Ok g mX0_takeAway (rmd 2) (FQ g (pV (fun M' => FRb M c M' ∧ RAb M' c (TKo x b)))) 65 [(0, rv g 17), (1, iv x), (2, iv c)] [rv g 18] M10
      refine x_iload_n 1 dX0_takeAway_65 rfl rfl ?_
      refine x_bipush (45) dX0_takeAway_66 rfl ?_
      refine x_cast dX0_takeAway_68 k11 (by omega) (by omega) (by decide) ⟨by decide, by decide⟩ (by omega) (by omega) ?_
      refine x_vret dX0_takeAway_69 rfl ?_
      have e1 : b.1 x = 113 := by omega
      refine ⟨rfl, fun o k a1 a2 a3 a4 => ?_, ?_⟩
      · rw [up_o (by omega)]; exact hd.1 o k (by omega) (by omega)
      · unfold TKo
        rw [if_neg (by omega), if_pos e1]
        refine ⟨fun y y0 y1 => ?_, ⟨?_, fun k y hk => ?_⟩, ?_, ?_, ?_⟩
        · show _ = st1 b.1 x 45 y
          unfold st1
          by_cases e : y = x
          · rw [if_pos e, e, up_s]
          · rw [if_neg e, up_k e, hd.1 _ _ (by omega) (by omega)]; exact r1 y y0 y1
        · simp (disch := omega) only [up_o]; exact hd.2.1
        · simp (disch := omega) only [up_o]; exact hd.2.2 k y hk
        · simp (disch := omega) only [up_o]; rw [hd.1 _ _ (by omega) (by omega)]; exact r3
        · simp (disch := omega) only [up_o]; rw [hd.1 _ _ (by omega) (by omega)]; exact r4
        · simp (disch := omega) only [up_o]; rw [hd.1 _ _ (by omega) (by omega)]; exact r5
  · refine x_aload_n 0 dX0_takeAway_11 rfl rfl ?_
    refine x_dup dX0_takeAway_12 rfl ?_
    refine x_geti (k := 5) (kI := 5) dX0_takeAway_13 fl0_30 k_17 rfl rfl (fun ⟨a12, a12'⟩ => ?_)
    refine x_iconst (1) dX0_takeAway_16 rfl ?_
    refine x_iadd dX0_takeAway_17 ?_
    refine x_puti (k := 5) (kI := 5) dX0_takeAway_18 fw0_30 k_17 rfl ⟨by omega, by omega⟩ rfl rfl rfl ?_
    refine x_aload_n 0 dX0_takeAway_21 rfl rfl ?_
    refine x_getr (k := 3) (d := 8) dX0_takeAway_22 fl0_24 k_17 rfl (fun k13 => ?_)
    have k13 : isK 20 4 25 := k13
    show Ok g mX0_takeAway (rmd 2) (FQ g (pV (fun M' => FRb M c M' ∧ RAb M' c (TKo x b)))) 25 [(0, rv g 17), (1, iv x), (2, iv c)] [rv g 25] (up M 17 5 ((M 17 5) + 1))
    refine x_iload_n 2 dX0_takeAway_25 rfl rfl ?_
    refine x_dup2 dX0_takeAway_26 rfl rfl ?_
    refine x_iald dX0_takeAway_27 k13 (by omega) (by omega) (by decide) (fun ⟨a14, a14'⟩ => ?_)
    have e15 : (up M 17 5 ((M 17 5) + 1)) 25 c = M 25 c := (by simp (disch := omega) only [up_s, up_o, up_k])
    simp only [e15] at a14 a14' ⊢
    refine x_iconst (1) dX0_takeAway_28 rfl ?_
    refine x_iadd dX0_takeAway_29 ?_
    refine x_iast dX0_takeAway_30 k13 (by omega) (by omega) (by decide) ⟨by omega, by omega⟩ ?_
    refine x_aload_n 0 dX0_takeAway_31 rfl rfl ?_
    refine x_getr (k := 4) (d := 9) dX0_takeAway_32 fl0_27 k_17 rfl (fun k16 => ?_)
    have k16 : isK 20 4 26 := k16
    show Ok g mX0_takeAway (rmd 2) (FQ g (pV (fun M' => FRb M c M' ∧ RAb M' c (TKo x b)))) 35 [(0, rv g 17), (1, iv x), (2, iv c)] [rv g 26] (up (up M 17 5 ((M 17 5) + 1)) 25 c ((M 25 c) + 1))
    refine x_iload_n 2 dX0_takeAway_35 rfl rfl ?_
    refine x_dup2 dX0_takeAway_36 rfl rfl ?_
    refine x_iald dX0_takeAway_37 k16 (by omega) (by omega) (by decide) (fun ⟨a17, a17'⟩ => ?_)
    have e18 : (up (up M 17 5 ((M 17 5) + 1)) 25 c ((M 25 c) + 1)) 26 c = M 26 c := (by simp (disch := omega) only [up_s, up_o, up_k])
    simp only [e18] at a17 a17' ⊢
    refine x_iconst (1) dX0_takeAway_38 rfl ?_
    refine x_isub dX0_takeAway_39 ?_
    refine x_iast dX0_takeAway_40 k16 (by omega) (by omega) (by decide) ⟨by omega, by omega⟩ ?_
    refine x_goto (tgt := 61) dX0_takeAway_41 (by decide) ?_
    refine x_aload_n 0 dX0_takeAway_61 rfl rfl ?_
    refine x_getr (k := 0) (d := 1) dX0_takeAway_62 fl0_9 k_17 rfl (fun k19 => ?_)
    have k19 : isK 21 40 18 := k19
    show Ok g mX0_takeAway (rmd 2) (FQ g (pV (fun M' => FRb M c M' ∧ RAb M' c (TKo x b)))) 65 [(0, rv g 17), (1, iv x), (2, iv c)] [rv g 18] (up (up (up M 17 5 ((M 17 5) + 1)) 25 c ((M 25 c) + 1)) 26 c ((M 26 c) - 1))
    refine x_iload_n 1 dX0_takeAway_65 rfl rfl ?_
    refine x_bipush (45) dX0_takeAway_66 rfl ?_
    refine x_cast dX0_takeAway_68 k19 (by omega) (by omega) (by decide) ⟨by decide, by decide⟩ (by omega) (by omega) ?_
    refine x_vret dX0_takeAway_69 rfl ?_
    have e1 : b.1 x = 111 := by omega
    refine ⟨rfl, fun o k a1 a2 a3 a4 => ?_, ?_⟩
    · rw [up_o (by omega), up_n (by omega), up_n (by omega), up_n (by omega)]
    · unfold TKo
      rw [if_pos e1]
      refine ⟨fun y y0 y1 => ?_, ⟨?_, fun k y hk => ?_⟩, ?_, ?_, ?_⟩
      · show _ = st1 b.1 x 45 y
        unfold st1
        by_cases e : y = x
        · rw [if_pos e, e, up_s]
        · rw [if_neg e, up_k e]; simp (disch := omega) only [up_o]; exact r1 y y0 y1
      · simp (disch := omega) only [up_o]; exact r2.1
      · simp (disch := omega) only [up_o]; exact r2.2 k y hk
      · simp (disch := omega) only [up_o, up_s]; show _ = b.2.2.1 + 1; omega
      · simp (disch := omega) only [up_o, up_s]; show _ = b.2.2.2.1 + 1; omega
      · simp (disch := omega) only [up_o, up_s]; show _ = b.2.2.2.2 - 1; omega

set_option maxHeartbeats 600000 in
set_option maxRecDepth 100000 in
theorem c_X0_enqueue (g : GG) (M : Mem) (x c : Int) (b : BSt) (c0 : 0 ≤ c ∧ c < 4) (x0 : 0 ≤ x ∧ x < 40) (hb : RAb M c b) (hq : QN b) (he : b.1 x = 45) : Ct g yX0_enqueue cX0_enqueue 3 none 0 [rv g 17, iv x, iv c] M (pV (fun M' => FRb M c M' ∧ RAb M' c (st1 b.1 x 113, b.2.1 ++ [x], b.2.2))) := by
  refine ct_of (by decide +kernel) (Nat.le_of_ble_eq_true rfl) ?_
  show Ok g mX0_enqueue (rmd 0) (FQ g (pV (fun M' => FRb M c M' ∧ RAb M' c (st1 b.1 x 113, b.2.1 ++ [x], b.2.2)))) 0 [(0, rv g 17), (1, iv x), (2, iv c)] [] M
  obtain ⟨r1, r2, r3, r4, r5⟩ := id hb
  have r6 := r2.1
  have r7 := hq.full x0.1 x0.2 he
  refine x_aload_n 0 dX0_enqueue_0 rfl rfl ?_
  refine x_getr (k := 2) (d := 7) dX0_enqueue_1 fl0_20 k_17 rfl (fun k1 => ?_)
  have k1 : isK 20 4 24 := k1
  show Ok g mX0_enqueue (rmd 0) (FQ g (pV (fun M' => FRb M c M' ∧ RAb M' c (st1 b.1 x 113, b.2.1 ++ [x], b.2.2)))) 4 [(0, rv g 17), (1, iv x), (2, iv c)] [rv g 24] M
  refine x_iload_n 2 dX0_enqueue_4 rfl rfl ?_
  refine x_iald dX0_enqueue_5 k1 (by omega) (by omega) (by decide) (fun ⟨a2, a2'⟩ => ?_)
  refine x_bipush (40) dX0_enqueue_6 rfl ?_
  refine x_icmp_ge (tgt := 43) dX0_enqueue_8 (by decide) ⟨by omega, by omega⟩ ⟨by decide, by decide⟩ (fun c3 => ?_) (fun c3 => ?_)
  · refine x_vret dX0_enqueue_43 rfl ?_
    exact absurd r7 (by omega)
  · refine x_aload_n 0 dX0_enqueue_11 rfl rfl ?_
    refine x_getr (k := 1) (d := 2) dX0_enqueue_12 fl0_17 k_17 rfl (fun k4 => ?_)
    have k4 : isK 33 4 19 := k4
    show Ok g mX0_enqueue (rmd 0) (FQ g (pV (fun M' => FRb M c M' ∧ RAb M' c (st1 b.1 x 113, b.2.1 ++ [x], b.2.2)))) 15 [(0, rv g 17), (1, iv x), (2, iv c)] [rv g 19] M
    refine x_iload_n 2 dX0_enqueue_15 rfl rfl ?_
    refine x_aald33 dX0_enqueue_16 k4 (by omega) (by omega) (by decide) (fun k5 => ?_)
    have ek5 : 19 + (1 + c) = c + 20 := by omega
    rw [ek5] at k5 ⊢
    refine x_aload_n 0 dX0_enqueue_17 rfl rfl ?_
    refine x_getr (k := 2) (d := 7) dX0_enqueue_18 fl0_20 k_17 rfl (fun k6 => ?_)
    have k6 : isK 20 4 24 := k6
    show Ok g mX0_enqueue (rmd 0) (FQ g (pV (fun M' => FRb M c M' ∧ RAb M' c (st1 b.1 x 113, b.2.1 ++ [x], b.2.2)))) 21 [(0, rv g 17), (1, iv x), (2, iv c)] [rv g 24, rv g (c + 20)] M
    refine x_iload_n 2 dX0_enqueue_21 rfl rfl ?_
    refine x_iald dX0_enqueue_22 k6 (by omega) (by omega) (by decide) (fun ⟨a7, a7'⟩ => ?_)
    refine x_iload_n 1 dX0_enqueue_23 rfl rfl ?_
    refine x_iast dX0_enqueue_24 k5 (by omega) (by omega) (by decide) ⟨by omega, by omega⟩ ?_
    refine x_aload_n 0 dX0_enqueue_25 rfl rfl ?_
    refine x_getr (k := 2) (d := 7) dX0_enqueue_26 fl0_20 k_17 rfl (fun k8 => ?_)
    have k8 : isK 20 4 24 := k8
    show Ok g mX0_enqueue (rmd 0) (FQ g (pV (fun M' => FRb M c M' ∧ RAb M' c (st1 b.1 x 113, b.2.1 ++ [x], b.2.2)))) 29 [(0, rv g 17), (1, iv x), (2, iv c)] [rv g 24] (up M (c + 20) (M 24 c) x)
    refine x_iload_n 2 dX0_enqueue_29 rfl rfl ?_
    refine x_dup2 dX0_enqueue_30 rfl rfl ?_
    refine x_iald dX0_enqueue_31 k8 (by omega) (by omega) (by decide) (fun ⟨a9, a9'⟩ => ?_)
    have e10 : (up M (c + 20) (M 24 c) x) 24 c = M 24 c := (by simp (disch := omega) only [up_s, up_o, up_k])
    simp only [e10] at a9 a9' ⊢
    refine x_iconst (1) dX0_enqueue_32 rfl ?_
    refine x_iadd dX0_enqueue_33 ?_
    refine x_iast dX0_enqueue_34 k8 (by omega) (by omega) (by decide) ⟨by omega, by omega⟩ ?_
    refine x_aload_n 0 dX0_enqueue_35 rfl rfl ?_
    refine x_getr (k := 0) (d := 1) dX0_enqueue_36 fl0_9 k_17 rfl (fun k11 => ?_)
    have k11 : isK 21 40 18 := k11
    show Ok g mX0_enqueue (rmd 0) (FQ g (pV (fun M' => FRb M c M' ∧ RAb M' c (st1 b.1 x 113, b.2.1 ++ [x], b.2.2)))) 39 [(0, rv g 17), (1, iv x), (2, iv c)] [rv g 18] (up (up M (c + 20) (M 24 c) x) 24 c ((M 24 c) + 1))
    refine x_iload_n 1 dX0_enqueue_39 rfl rfl ?_
    refine x_bipush (113) dX0_enqueue_40 rfl ?_
    refine x_cast dX0_enqueue_42 k11 (by omega) (by omega) (by decide) ⟨by decide, by decide⟩ (by omega) (by omega) ?_
    refine x_vret dX0_enqueue_43 rfl ?_
    refine ⟨rfl, fun o k a1 a2 a3 a4 => ?_, fun y y0 y1 => ?_, ?_, ?_, ?_, ?_⟩
    · rw [up_o a1, up_n (by omega), up_o a2]
    · show _ = st1 b.1 x 113 y
      unfold st1
      by_cases e : y = x
      · rw [if_pos e, e, up_s]
      · rw [if_neg e, up_k e]; simp (disch := omega) only [up_o]; exact r1 y y0 y1
    · refine r2.snoc ?_ (fun j j0 j1 => ?_) ?_
      · simp (disch := omega) only [up_o, up_s]
      · simp (disch := omega) only [up_o, up_k]
      · simp (disch := omega) only [up_o, up_s]
    · simp (disch := omega) only [up_o]; exact r3
    · simp (disch := omega) only [up_o]; exact r4
    · simp (disch := omega) only [up_o]; exact r5

set_option maxHeartbeats 600000 in
set_option maxRecDepth 100000 in
theorem c_X0_follow (g : GG) (M : Mem) (o p c T : Int) (b : BSt) (c0 : 0 ≤ c ∧ c < 4) (p0 : 0 ≤ p ∧ p < 5) (ko : isK 1 7 o) (ho : 26 < o ∧ o ≤ 41) (hT : M o 6 = T) (T0 : 0 ≤ T ∧ T ≤ 8) (hb : RAb M c b) (hq : QS 50000 b) : Ct g yX0_follow cX0_follow 6 none 3 [rv g 17, rv g o, iv p, iv c] M (pV (fun M' => FRb M c M' ∧ RAb M' c (fFo (fun t => M (o + 2) (5 * t + p) ≠ -1) p T b))) := by
  refine ct_of (by decide +kernel) (Nat.le_of_ble_eq_true rfl) ?_
  show Ok g mX0_follow (rmd 3) (FQ g (pV (fun M' => FRb M c M' ∧ RAb M' c (fFo (fun t => M (o + 2) (5 * t + p) ≠ -1) p T b)))) 0 [(0, rv g 17), (1, rv g o), (2, iv p), (3, iv c)] [] M
  have hq2 : QS 50008 (fTk (fun t => M (o + 2) (5 * t + p) ≠ -1) p b T.toNat) := (hq.fTk _).mono (by omega)
  have hq3 := hq2.sv
  have h_50 : ∀ (n_50 : Nat) (M2 : Mem) (t : Int), (0 ≤ t ∧ t ≤ T) → (FRb M c M2) → (RAb M2 c (fSn (fun t => M (o + 2) (5 * t + p) ≠ -1) p (SVo (fTk (fun t => M (o + 2) (5 * t + p) ≠ -1) p b T.toNat)) t.toNat)) → (T - t).toNat < n_50 → Ok g mX0_follow (rmd 3) (FQ g (pV (fun M' => FRb M c M' ∧ RAb M' c (fFo (fun t => M (o + 2) (5 * t + p) ≠ -1) p T b)))) 50 [(0, rv g 17), (1, rv g o), (2, iv p), (3, iv c), (4, iv t)] [] M2 := by
    intro n_50
    induction n_50 with
    | zero => intro M2 t l0 l1 l2 hn_50; exact absurd hn_50 (Nat.not_lt_zero _)
    | succ n_50 ih_50 =>
      intro M2 t l0 l1 l2 hn_50
      refine x_iload 4 dX0_follow_50 rfl ?_
      refine x_aload_n 1 dX0_follow_52 rfl rfl ?_
      refine x_geti (k := 6) (kI := 6) dX0_follow_53 fl0_34 ko rfl rfl (fun ⟨a1, a1'⟩ => ?_)
      have e2 : M2 o 6 = M o 6 := (l1 _ _ (by omega) (by omega) (by omega) (by omega))
      simp only [e2] at a1 a1' ⊢
      refine x_icmp_ge (tgt := 106) dX0_follow_56 (by decide) ⟨by omega, by omega⟩ ⟨by omega, by omega⟩ (fun c3 => ?_) (fun c3 => ?_)
      · refine x_vret dX0_follow_106 rfl ?_
        refine ⟨rfl, l1, ?_⟩
        rw [show t = T by omega] at l2
        exact l2
      · refine x_iload 4 dX0_follow_59 rfl ?_
        refine x_iload_n 2 dX0_follow_61 rfl rfl ?_
        refine x_callNIP (as := [iv t, iv p]) (rest := []) dX0_follow_62 nl0_39 (c_X8_spotOf g M2 t p) rfl rfl (Nat.le_of_ble_eq_true rfl) ⟨Nat.le_of_ble_eq_true rfl, Nat.le_of_ble_eq_true rfl⟩ (fun z4 h5 => ?_)
        have hsp := h5
        refine x_istore (lv' := [(5, iv z4), (0, rv g 17), (1, rv g o), (2, iv p), (3, iv c), (4, iv t)]) dX0_follow_65 (Nat.le_of_ble_eq_true rfl) rfl ?_
        refine x_aload_n 2 dX0_follow_67 rfl rfl ?_
        refine x_iload 0 dX0_follow_68 rfl ?_
        refine x_callVIP (as := [iv z4]) (rest := []) dX0_follow_70 vl0_43 ko (c_X1_hasSolved g M2 o z4 ko (by omega)) rfl rfl (Nat.le_of_ble_eq_true rfl) ⟨Nat.le_of_ble_eq_true rfl, Nat.le_of_ble_eq_true rfl⟩ (fun z7 h8 => ?_)
        have hs : (z7 = 1 ∧ M (o + 2) (5 * t + p) ≠ -1) ∨ (z7 = 0 ∧ M (o + 2) (5 * t + p) = -1) := by
          have hs0 := h8
          rw [hsp, l1 _ _ (by omega) (by omega) (by omega) (by omega)] at hs0
          exact hs0
        refine x_if_eq (tgt := 100) dX0_follow_73 (by decide) ⟨by omega, by omega⟩ (fun c10 => ?_) (fun c10 => ?_)
        · refine x_iinc (z := t) (lv' := [(4, iv (t + 1)), (5, iv z4), (0, rv g 17), (1, rv g o), (2, iv p), (3, iv c)]) 5 dX0_follow_100 rfl (Nat.le_of_ble_eq_true rfl) rfl ?_
          refine x_goto (tgt := 50) dX0_follow_103 (by decide) ?_
          refine x_sub [2, 3, 4, 5, 0] rfl ?_
          exact ih_50 _ _ (by omega) (by exact l1) (by rw [fSn_f (by omega) (fun w => by first | exact w.1 (by omega) | (have w2 := w.2; rw [← hsp] at w2; omega))]; exact l2) (by omega)
        · refine x_aload_n 1 dX0_follow_76 rfl rfl ?_
          refine x_getr (k := 0) (d := 1) dX0_follow_77 fl0_9 k_17 rfl (fun k11 => ?_)
          have k11 : isK 21 40 18 := k11
          show Ok g mX0_follow (rmd 3) (FQ g (pV (fun M' => FRb M c M' ∧ RAb M' c (fFo (fun t => M (o + 2) (5 * t + p) ≠ -1) p T b)))) 80 [(5, iv z4), (0, rv g 17), (1, rv g o), (2, iv p), (3, iv c), (4, iv t)] [rv g 18] M2
          refine x_iload 0 dX0_follow_80 rfl ?_
          refine x_cald dX0_follow_82 k11 (by omega) (by omega) (by decide) (fun ⟨a12, a12'⟩ => ?_)
          refine x_bipush (45) dX0_follow_83 rfl ?_
          refine x_icmp_ne (tgt := 100) dX0_follow_85 (by decide) ⟨by omega, by omega⟩ ⟨by decide, by decide⟩ (fun c13 => ?_) (fun c13 => ?_)
          · have hst0 := l2.1 (5 * t + p) (by omega) (by omega)
            rw [← hsp] at hst0
            refine x_iinc (z := t) (lv' := [(4, iv (t + 1)), (5, iv z4), (0, rv g 17), (1, rv g o), (2, iv p), (3, iv c)]) 5 dX0_follow_100 rfl (Nat.le_of_ble_eq_true rfl) rfl ?_
            refine x_goto (tgt := 50) dX0_follow_103 (by decide) ?_
            refine x_sub [2, 3, 4, 5, 0] rfl ?_
            exact ih_50 _ _ (by omega) (by exact l1) (by rw [fSn_f (by omega) (fun w => by first | exact w.1 (by omega) | (have w2 := w.2; rw [← hsp] at w2; omega))]; exact l2) (by omega)
          · have hst0 := l2.1 (5 * t + p) (by omega) (by omega)
            rw [← hsp] at hst0
            refine x_aload_n 1 dX0_follow_88 rfl rfl ?_
            refine x_iload 0 dX0_follow_89 rfl ?_
            refine x_iload_n 4 dX0_follow_91 rfl rfl ?_
            have hq4 : QS 50400 (fSn (fun t => M (o + 2) (5 * t + p) ≠ -1) p (SVo (fTk (fun t => M (o + 2) (5 * t + p) ≠ -1) p b T.toNat)) t.toNat) := (hq3.fSn p0.1 p0.2 t.toNat (by omega)).mono (by omega)
            have hst : (fSn (fun t => M (o + 2) (5 * t + p) ≠ -1) p (SVo (fTk (fun t => M (o + 2) (5 * t + p) ≠ -1) p b T.toNat)) t.toNat).1 z4 = 45 := by omega
            have hq5 := hq4.add (x := z4) (by omega) (by omega) hst
            have hbs := hq5.2.1.bs
            refine x_callVV (as := [iv z4, iv c]) (rest := []) dX0_follow_92 vl0_55 k_17 (c_X0_enqueue g M2 z4 c _ c0 (by omega) l2 hq4.1 hst) rfl rfl (Nat.le_of_ble_eq_true rfl) ⟨Nat.le_of_ble_eq_true rfl, Nat.le_of_ble_eq_true rfl⟩ (fun M16 h15 => ?_)
            obtain ⟨u1, u2⟩ := h15
            refine x_aload_n 1 dX0_follow_95 rfl rfl ?_
            refine x_iload_n 4 dX0_follow_96 rfl rfl ?_
            refine x_callVV (as := [iv c]) (rest := []) dX0_follow_97 vl0_51 k_17 (c_X0_serve g M16 c _ c0 u2 hq5.1 hbs) rfl rfl (Nat.le_of_ble_eq_true rfl) ⟨Nat.le_of_ble_eq_true rfl, Nat.le_of_ble_eq_true rfl⟩ (fun M19 h18 => ?_)
            obtain ⟨v1, v2⟩ := h18
            rw [hsp] at v2
            refine x_iinc (z := t) (lv' := [(4, iv (t + 1)), (5, iv z4), (0, rv g 17), (1, rv g o), (2, iv p), (3, iv c)]) 5 dX0_follow_100 rfl (Nat.le_of_ble_eq_true rfl) rfl ?_
            refine x_goto (tgt := 50) dX0_follow_103 (by decide) ?_
            refine x_sub [2, 3, 4, 5, 0] rfl ?_
            exact ih_50 _ _ (by omega) (by exact l1.trans (u1.trans v1)) (by rw [fSn_t (by omega) (show _ from fun w => by omega) (by rw [← hsp]; exact hst)]; exact v2) (by omega)
  have h_3 : ∀ (n_3 : Nat) (M1 : Mem) (t : Int), (0 ≤ t ∧ t ≤ T) → (FRb M c M1) → (RAb M1 c (fTk (fun t => M (o + 2) (5 * t + p) ≠ -1) p b t.toNat)) → (T - t).toNat < n_3 → Ok g mX0_follow (rmd 3) (FQ g (pV (fun M' => FRb M c M' ∧ RAb M' c (fFo (fun t => M (o + 2) (5 * t + p) ≠ -1) p T b)))) 3 [(0, rv g 17), (1, rv g o), (2, iv p), (3, iv c), (4, iv t)] [] M1 := by
    intro n_3
    induction n_3 with
    | zero => intro M1 t j0 j1 j2 hn_3; exact absurd hn_3 (Nat.not_lt_zero _)
    | succ n_3 ih_3 =>
      intro M1 t j0 j1 j2 hn_3
      refine x_iload 4 dX0_follow_3 rfl ?_
      refine x_aload_n 1 dX0_follow_5 rfl rfl ?_
      refine x_geti (k := 6) (kI := 6) dX0_follow_6 fl0_34 ko rfl rfl (fun ⟨a20, a20'⟩ => ?_)
      have e21 : M1 o 6 = M o 6 := (j1 _ _ (by omega) (by omega) (by omega) (by omega))
      simp only [e21] at a20 a20' ⊢
      refine x_icmp_ge (tgt := 42) dX0_follow_9 (by decide) ⟨by omega, by omega⟩ ⟨by omega, by omega⟩ (fun c22 => ?_) (fun c22 => ?_)
      · refine x_aload_n 0 dX0_follow_42 rfl rfl ?_
        refine x_iload_n 3 dX0_follow_43 rfl rfl ?_
        have hbs := hq2.2.1.bs
        have e9 : t = T := by omega
        rw [e9] at j2
        refine x_callVV (as := [iv c]) (rest := []) dX0_follow_44 vl0_51 k_17 (c_X0_serve g M1 c _ c0 j2 hq2.1 hbs) rfl rfl (Nat.le_of_ble_eq_true rfl) ⟨Nat.le_of_ble_eq_true rfl, Nat.le_of_ble_eq_true rfl⟩ (fun M25 h24 => ?_)
        obtain ⟨u1, u2⟩ := h24
        refine x_iconst (0) dX0_follow_47 rfl ?_
        refine x_istore (lv' := [(4, iv 0), (0, rv g 17), (1, rv g o), (2, iv p), (3, iv c)]) dX0_follow_48 (Nat.le_of_ble_eq_true rfl) rfl ?_
        refine x_sub [1, 2, 3, 4, 0] rfl ?_
        exact h_50 _ _ _ (by omega) (by exact j1.trans u1) (by exact u2) (Nat.lt_succ_self _)
      · refine x_iload 4 dX0_follow_12 rfl ?_
        refine x_iload_n 2 dX0_follow_14 rfl rfl ?_
        refine x_callNIP (as := [iv t, iv p]) (rest := []) dX0_follow_15 nl0_39 (c_X8_spotOf g M1 t p) rfl rfl (Nat.le_of_ble_eq_true rfl) ⟨Nat.le_of_ble_eq_true rfl, Nat.le_of_ble_eq_true rfl⟩ (fun z26 h27 => ?_)
        have hsp := h27
        refine x_istore (lv' := [(5, iv z26), (0, rv g 17), (1, rv g o), (2, iv p), (3, iv c), (4, iv t)]) dX0_follow_18 (Nat.le_of_ble_eq_true rfl) rfl ?_
        refine x_aload_n 2 dX0_follow_20 rfl rfl ?_
        refine x_iload 0 dX0_follow_21 rfl ?_
        refine x_callVIP (as := [iv z26]) (rest := []) dX0_follow_23 vl0_43 ko (c_X1_hasSolved g M1 o z26 ko (by omega)) rfl rfl (Nat.le_of_ble_eq_true rfl) ⟨Nat.le_of_ble_eq_true rfl, Nat.le_of_ble_eq_true rfl⟩ (fun z29 h30 => ?_)
        have hs : (z29 = 1 ∧ M (o + 2) (5 * t + p) ≠ -1) ∨ (z29 = 0 ∧ M (o + 2) (5 * t + p) = -1) := by
          have hs0 := h30
          rw [hsp, j1 _ _ (by omega) (by omega) (by omega) (by omega)] at hs0
          exact hs0
        refine x_if_ne (tgt := 36) dX0_follow_26 (by decide) ⟨by omega, by omega⟩ (fun c32 => ?_) (fun c32 => ?_)
        · refine x_iinc (z := t) (lv' := [(4, iv (t + 1)), (5, iv z26), (0, rv g 17), (1, rv g o), (2, iv p), (3, iv c)]) 5 dX0_follow_36 rfl (Nat.le_of_ble_eq_true rfl) rfl ?_
          refine x_goto (tgt := 3) dX0_follow_39 (by decide) ?_
          refine x_sub [2, 3, 4, 5, 0] rfl ?_
          exact ih_3 _ _ (by omega) (by exact j1) (by rw [fTk_t (by omega) (show _ from fun w => by omega)]; exact j2) (by omega)
        · refine x_aload_n 1 dX0_follow_29 rfl rfl ?_
          refine x_iload 0 dX0_follow_30 rfl ?_
          refine x_iload_n 4 dX0_follow_32 rfl rfl ?_
          refine x_callVV (as := [iv z26, iv c]) (rest := []) dX0_follow_33 vl0_47 k_17 (c_X0_takeAway g M1 z26 c _ c0 (by omega) j2 ((hq.fTk t.toNat).mono (by omega))) rfl rfl (Nat.le_of_ble_eq_true rfl) ⟨Nat.le_of_ble_eq_true rfl, Nat.le_of_ble_eq_true rfl⟩ (fun M35 h34 => ?_)
          obtain ⟨u1, u2⟩ := h34
          rw [hsp] at u2
          refine x_iinc (z := t) (lv' := [(4, iv (t + 1)), (5, iv z26), (0, rv g 17), (1, rv g o), (2, iv p), (3, iv c)]) 5 dX0_follow_36 rfl (Nat.le_of_ble_eq_true rfl) rfl ?_
          refine x_goto (tgt := 3) dX0_follow_39 (by decide) ?_
          refine x_sub [2, 3, 4, 5, 0] rfl ?_
          exact ih_3 _ _ (by omega) (by exact j1.trans u1) (by rw [fTk_f (by omega) (fun w => w (by omega))]; exact u2) (by omega)
  refine x_iconst (0) dX0_follow_0 rfl ?_
  refine x_istore (lv' := [(4, iv 0), (0, rv g 17), (1, rv g o), (2, iv p), (3, iv c)]) dX0_follow_1 (Nat.le_of_ble_eq_true rfl) rfl ?_
  refine x_sub [1, 2, 3, 4, 0] rfl ?_
  exact h_3 _ _ _ (by omega) (by exact FRb.rfl') (by exact hb) (Nat.lt_succ_self _)

set_option maxHeartbeats 600000 in
set_option maxRecDepth 100000 in
theorem c_X0_isStockLeftOver (g : GG) (M : Mem)   : Ct g yX0_isStockLeftOver cX0_isStockLeftOver 2 (some .boolean) 0 [rv g 17] M (pIP (fun z => (z = 1 ∧ ∀ c, 0 ≤ c → c < 4 → ¬ (0 < M 25 c ∧ 0 < M 24 c)) ∨ (z = 0 ∧ ¬ ∀ c, 0 ≤ c → c < 4 → ¬ (0 < M 25 c ∧ 0 < M 24 c))) M) := by
  refine ct_of (by decide +kernel) (Nat.le_of_ble_eq_true rfl) ?_
  show Ok g mX0_isStockLeftOver (rmd 0) (FQ g (pIP (fun z => (z = 1 ∧ ∀ c, 0 ≤ c → c < 4 → ¬ (0 < M 25 c ∧ 0 < M 24 c)) ∨ (z = 0 ∧ ¬ ∀ c, 0 ≤ c → c < 4 → ¬ (0 < M 25 c ∧ 0 < M 24 c))) M)) 0 [(0, rv g 17)] [] M
  have h_2 : ∀ (n_2 : Nat) (c : Int), (0 ≤ c ∧ c ≤ 4) → (∀ j, 0 ≤ j → j < c → ¬ (0 < M 25 j ∧ 0 < M 24 j)) → (4 - c).toNat < n_2 → Ok g mX0_isStockLeftOver (rmd 0) (FQ g (pIP (fun z => (z = 1 ∧ ∀ c, 0 ≤ c → c < 4 → ¬ (0 < M 25 c ∧ 0 < M 24 c)) ∨ (z = 0 ∧ ¬ ∀ c, 0 ≤ c → c < 4 → ¬ (0 < M 25 c ∧ 0 < M 24 c))) M)) 2 [(0, rv g 17), (1, iv c)] [] M := by
    intro n_2
    induction n_2 with
    | zero => intro c j0 j1 hn_2; exact absurd hn_2 (Nat.not_lt_zero _)
    | succ n_2 ih_2 =>
      intro c j0 j1 hn_2
      refine x_iload_n 1 dX0_isStockLeftOver_2 rfl rfl ?_
      refine x_iconst (4) dX0_isStockLeftOver_3 rfl ?_
      refine x_icmp_ge (tgt := 33) dX0_isStockLeftOver_4 (by decide) ⟨by omega, by omega⟩ ⟨by decide, by decide⟩ (fun c1 => ?_) (fun c1 => ?_)
      · refine x_iconst (1) dX0_isStockLeftOver_33 rfl ?_
        refine x_iret dX0_isStockLeftOver_34 rfl (iZ_bool (by omega)) ?_
        exact ⟨_, rfl, rfl, Or.inl ⟨rfl, fun j x0 x1 => j1 j x0 (by omega)⟩⟩
      · refine x_aload_n 0 dX0_isStockLeftOver_7 rfl rfl ?_
        refine x_getr (k := 3) (d := 8) dX0_isStockLeftOver_8 fl0_24 k_17 rfl (fun k2 => ?_)
        have k2 : isK 20 4 25 := k2
        show Ok g mX0_isStockLeftOver (rmd 0) (FQ g (pIP (fun z => (z = 1 ∧ ∀ c, 0 ≤ c → c < 4 → ¬ (0 < M 25 c ∧ 0 < M 24 c)) ∨ (z = 0 ∧ ¬ ∀ c, 0 ≤ c → c < 4 → ¬ (0 < M 25 c ∧ 0 < M 24 c))) M)) 11 [(0, rv g 17), (1, iv c)] [rv g 25] M
        refine x_iload_n 1 dX0_isStockLeftOver_11 rfl rfl ?_
        refine x_iald dX0_isStockLeftOver_12 k2 (by omega) (by omega) (by decide) (fun ⟨a3, a3'⟩ => ?_)
        refine x_if_le (tgt := 27) dX0_isStockLeftOver_13 (by decide) ⟨by omega, by omega⟩ (fun c4 => ?_) (fun c4 => ?_)
        · refine x_iinc (z := c) (lv' := [(1, iv (c + 1)), (0, rv g 17)]) 1 dX0_isStockLeftOver_27 rfl (Nat.le_of_ble_eq_true rfl) rfl ?_
          refine x_goto (tgt := 2) dX0_isStockLeftOver_30 (by decide) ?_
          refine x_sub [1, 0] rfl ?_
          exact ih_2 _ (by omega) (by exact ext_lt j1 (by omega)) (by omega)
        · refine x_aload_n 0 dX0_isStockLeftOver_16 rfl rfl ?_
          refine x_getr (k := 2) (d := 7) dX0_isStockLeftOver_17 fl0_20 k_17 rfl (fun k5 => ?_)
          have k5 : isK 20 4 24 := k5
          show Ok g mX0_isStockLeftOver (rmd 0) (FQ g (pIP (fun z => (z = 1 ∧ ∀ c, 0 ≤ c → c < 4 → ¬ (0 < M 25 c ∧ 0 < M 24 c)) ∨ (z = 0 ∧ ¬ ∀ c, 0 ≤ c → c < 4 → ¬ (0 < M 25 c ∧ 0 < M 24 c))) M)) 20 [(0, rv g 17), (1, iv c)] [rv g 24] M
          refine x_iload_n 1 dX0_isStockLeftOver_20 rfl rfl ?_
          refine x_iald dX0_isStockLeftOver_21 k5 (by omega) (by omega) (by decide) (fun ⟨a6, a6'⟩ => ?_)
          refine x_if_le (tgt := 27) dX0_isStockLeftOver_22 (by decide) ⟨by omega, by omega⟩ (fun c7 => ?_) (fun c7 => ?_)
          · refine x_iinc (z := c) (lv' := [(1, iv (c + 1)), (0, rv g 17)]) 1 dX0_isStockLeftOver_27 rfl (Nat.le_of_ble_eq_true rfl) rfl ?_
            refine x_goto (tgt := 2) dX0_isStockLeftOver_30 (by decide) ?_
            refine x_sub [1, 0] rfl ?_
            exact ih_2 _ (by omega) (by exact ext_lt j1 (by omega)) (by omega)
          · refine x_iconst (0) dX0_isStockLeftOver_25 rfl ?_
            refine x_iret dX0_isStockLeftOver_26 rfl (iZ_bool (by omega)) ?_
            exact ⟨_, rfl, rfl, Or.inr ⟨rfl, fun e => e c (by omega) (by omega) ⟨by omega, by omega⟩⟩⟩
  refine x_iconst (0) dX0_isStockLeftOver_0 rfl ?_
  refine x_istore_n (lv' := [(1, iv 0), (0, rv g 17)]) dX0_isStockLeftOver_1 rfl (Nat.le_of_ble_eq_true rfl) rfl ?_
  refine x_sub [1, 0] rfl ?_
  exact h_2 _ _ (by omega) (by intro j _ _; omega) (Nat.lt_succ_self _)
