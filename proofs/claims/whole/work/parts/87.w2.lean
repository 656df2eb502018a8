set_option maxHeartbeats 600000 in
set_option maxRecDepth 100000 in
theorem c_L_step (g : GG) (M : Mem) (l a d : Int) (hl : 0 ≤ l ∧ l < 65536) (ha : rg a) (hd : rg d) (hn : 0 ≤ M 1 3 ∧ M 1 3 ≤ 20) (hst : g.1.stackTraces = false) : Cw g yL_step cL_step 6 [(0, 12, 15, 13), (0, 12, 19, 15)] 3 [rv g 0, iv l, iv a, iv d, rv g 497] M (pI (fun kw Mw => (kw = 0 ∧ ∃ z Mc, (SOK l a d ∧ M 1 3 < 20 ∧ z = M 1 3 + 1 ∧ Mc = up (up (up (up M 2 (M 1 3) l) 3 (M 1 3) a) 4 (M 1 3) d) 1 3 (M 1 3 + 1)) ∧ Mw = up Mc 497 0 (wr z)) ∨ (kw = 1 ∧ (¬ SOK l a d) ∧ Mw = M) ∨ (kw = 2 ∧ (SOK l a d ∧ M 1 3 = 20) ∧ Mw = M))) := by
  refine cw_of (by decide +kernel) rfl (Nat.le_of_ble_eq_true rfl) ?_
  show Okw g cL_step 6 [(0, 12, 15, 13), (0, 12, 19, 15)] (rmw 3) (FQw g (pI (fun kw Mw => (kw = 0 ∧ ∃ z Mc, (SOK l a d ∧ M 1 3 < 20 ∧ z = M 1 3 + 1 ∧ Mc = up (up (up (up M 2 (M 1 3) l) 3 (M 1 3) a) 4 (M 1 3) d) 1 3 (M 1 3 + 1)) ∧ Mw = up Mc 497 0 (wr z)) ∨ (kw = 1 ∧ (¬ SOK l a d) ∧ Mw = M) ∨ (kw = 2 ∧ (SOK l a d ∧ M 1 3 = 20) ∧ Mw = M)))) 0 0 0 [(0, rv g 0), (1, iv l), (2, iv a), (3, iv d), (4, rv g 497)] [] M
  refine y_aload 4 dL_step_0 rfl ?_
  refine y_iconst (0) dL_step_2 rfl ?_
  refine y_aload_n 0 dL_step_3 rfl rfl ?_
  refine y_iload_n 1 dL_step_4 rfl rfl ?_
  refine y_iload_n 2 dL_step_5 rfl rfl ?_
  refine y_iload_n 3 dL_step_6 rfl rfl ?_
  refine y_call (as := [iv l, iv a, iv d]) (rest := [iv 0, rv g 497]) dL_step_7 vlL_7 k_0 (c_X8_step g M l a d hl ha hd hn hst) rfl rfl (Nat.le_of_ble_eq_true rfl) ⟨Nat.le_of_ble_eq_true rfl, Nat.le_of_ble_eq_true rfl, Nat.le_of_ble_eq_true rfl, Nat.le_of_ble_eq_true rfl⟩ (fun v M1 hv => ?_) (fun E M1 hE => ?_)
  · obtain ⟨z, rfl, hq⟩ := hv
    refine y_i2l dL_step_10 ?_
    refine y_lastore dL_step_11 ?_
    refine y_goto (tgt := 23) dL_step_12 (by decide) ?_
    refine y_iconst (0) dL_step_23 rfl ?_
    refine y_iret dL_step_24 ?_
    exact ⟨_, rfl, Or.inl ⟨rfl, z, M1, hq, rfl⟩⟩
  · rcases hE with ⟨rfl, hc, rfl⟩ | ⟨rfl, hc, rfl⟩
    · refine y_catch [] [(0, 12, 19, 15)] rfl ⟨by omega, by omega⟩ (by decide) (inr8 _ (List.mem_of_getElem? (i := 0) rfl)) (List.mem_of_getElem? (i := 3) rfl) (fun _ h => nomatch h) (fun q => ?_)
      refine y_astore (lv' := [(5, .ref q), (0, rv g 0), (1, iv l), (2, iv a), (3, iv d), (4, rv g 497)]) dL_step_15 (Nat.le_of_ble_eq_true rfl) rfl ?_
      refine y_iconst (1) dL_step_17 rfl ?_
      refine y_iret dL_step_18 ?_
      exact ⟨_, rfl, Or.inr (Or.inl ⟨rfl, hc, rfl⟩)⟩
    · refine y_catch [(0, 12, 15, 13)] [] rfl ⟨by omega, by omega⟩ (by decide) (inr8 _ (List.mem_of_getElem? (i := 1) rfl)) (List.mem_of_getElem? (i := 4) rfl) (List.forall_mem_cons.mpr ⟨⟨by decide, "java/lang/IllegalArgumentException", inr8 _ (List.mem_of_getElem? (i := 0) rfl), List.mem_of_getElem? (i := 0) rfl⟩, fun _ h => nomatch h⟩) (fun q => ?_)
      refine y_astore (lv' := [(5, .ref q), (0, rv g 0), (1, iv l), (2, iv a), (3, iv d), (4, rv g 497)]) dL_step_19 (Nat.le_of_ble_eq_true rfl) rfl ?_
      refine y_iconst (2) dL_step_21 rfl ?_
      refine y_iret dL_step_22 ?_
      exact ⟨_, rfl, Or.inr (Or.inr (⟨rfl, hc, rfl⟩))⟩

set_option maxHeartbeats 600000 in
set_option maxRecDepth 100000 in
theorem c_L_number (g : GG) (M : Mem) (v b : Int) (hv : rg v) (b0 : b = 0 ∨ b = 1) (hr : 0 ≤ M 5 2 ∧ M 5 2 ≤ 4 ∧ 0 ≤ M 5 3 ∧ M 5 3 ≤ 6) (hst : g.1.stackTraces = false) : Cw g yL_number cL_number 5 [(0, 10, 13, 13), (0, 10, 17, 15)] 3 [rv g 0, iv v, iv b, rv g 497] M (pI (fun kw Mw => (kw = 0 ∧ ∃ z Mc, ((-999 ≤ v ∧ v ≤ 999) ∧ ((b = 1 ∧ M 5 3 < 6 ∧ z = M 5 3 + 1 ∧ Mc = up (up M 7 (M 5 3) v) 5 3 (M 5 3 + 1)) ∨ (b = 0 ∧ M 5 2 < 4 ∧ z = M 5 2 + 1 ∧ Mc = up (up M 6 (M 5 2) v) 5 2 (M 5 2 + 1)))) ∧ Mw = up Mc 497 0 (wr z)) ∨ (kw = 1 ∧ (v < -999 ∨ 999 < v) ∧ Mw = M) ∨ (kw = 2 ∧ ((-999 ≤ v ∧ v ≤ 999) ∧ ((b = 1 ∧ M 5 3 = 6) ∨ (b = 0 ∧ M 5 2 = 4))) ∧ Mw = M))) := by
  refine cw_of (by decide +kernel) rfl (Nat.le_of_ble_eq_true rfl) ?_
  show Okw g cL_number 5 [(0, 10, 13, 13), (0, 10, 17, 15)] (rmw 3) (FQw g (pI (fun kw Mw => (kw = 0 ∧ ∃ z Mc, ((-999 ≤ v ∧ v ≤ 999) ∧ ((b = 1 ∧ M 5 3 < 6 ∧ z = M 5 3 + 1 ∧ Mc = up (up M 7 (M 5 3) v) 5 3 (M 5 3 + 1)) ∨ (b = 0 ∧ M 5 2 < 4 ∧ z = M 5 2 + 1 ∧ Mc = up (up M 6 (M 5 2) v) 5 2 (M 5 2 + 1)))) ∧ Mw = up Mc 497 0 (wr z)) ∨ (kw = 1 ∧ (v < -999 ∨ 999 < v) ∧ Mw = M) ∨ (kw = 2 ∧ ((-999 ≤ v ∧ v ≤ 999) ∧ ((b = 1 ∧ M 5 3 = 6) ∨ (b = 0 ∧ M 5 2 = 4))) ∧ Mw = M)))) 0 0 0 [(0, rv g 0), (1, iv v), (2, iv b), (3, rv g 497)] [] M
  refine y_aload_n 3 dL_number_0 rfl rfl ?_
  refine y_iconst (0) dL_number_1 rfl ?_
  refine y_aload_n 0 dL_number_2 rfl rfl ?_
  refine y_iload_n 1 dL_number_3 rfl rfl ?_
  refine y_iload_n 2 dL_number_4 rfl rfl ?_
  refine y_call (as := [iv v, iv b]) (rest := [iv 0, rv g 497]) dL_number_5 vlL_17 k_0 (c_X8_number g M v b hv b0 hr hst) rfl rfl (Nat.le_of_ble_eq_true rfl) ⟨Nat.le_of_ble_eq_true rfl, Nat.le_of_ble_eq_true rfl, Nat.le_of_ble_eq_true rfl, Nat.le_of_ble_eq_true rfl⟩ (fun v M1 hv => ?_) (fun E M1 hE => ?_)
  · obtain ⟨z, rfl, hq⟩ := hv
    refine y_i2l dL_number_8 ?_
    refine y_lastore dL_number_9 ?_
    refine y_goto (tgt := 21) dL_number_10 (by decide) ?_
    refine y_iconst (0) dL_number_21 rfl ?_
    refine y_iret dL_number_22 ?_
    exact ⟨_, rfl, Or.inl ⟨rfl, z, M1, hq, rfl⟩⟩
  · rcases hE with ⟨rfl, hc, rfl⟩ | ⟨rfl, hc, rfl⟩
    · refine y_catch [] [(0, 10, 17, 15)] rfl ⟨by omega, by omega⟩ (by decide) (inr8 _ (List.mem_of_getElem? (i := 0) rfl)) (List.mem_of_getElem? (i := 3) rfl) (fun _ h => nomatch h) (fun q => ?_)
      refine y_astore (lv' := [(4, .ref q), (0, rv g 0), (1, iv v), (2, iv b), (3, rv g 497)]) dL_number_13 (Nat.le_of_ble_eq_true rfl) rfl ?_
      refine y_iconst (1) dL_number_15 rfl ?_
      refine y_iret dL_number_16 ?_
      exact ⟨_, rfl, Or.inr (Or.inl ⟨rfl, hc, rfl⟩)⟩
    · refine y_catch [(0, 10, 13, 13)] [] rfl ⟨by omega, by omega⟩ (by decide) (inr8 _ (List.mem_of_getElem? (i := 1) rfl)) (List.mem_of_getElem? (i := 4) rfl) (List.forall_mem_cons.mpr ⟨⟨by decide, "java/lang/IllegalArgumentException", inr8 _ (List.mem_of_getElem? (i := 0) rfl), List.mem_of_getElem? (i := 0) rfl⟩, fun _ h => nomatch h⟩) (fun q => ?_)
      refine y_astore (lv' := [(4, .ref q), (0, rv g 0), (1, iv v), (2, iv b), (3, rv g 497)]) dL_number_17 (Nat.le_of_ble_eq_true rfl) rfl ?_
      refine y_iconst (2) dL_number_19 rfl ?_
      refine y_iret dL_number_20 ?_
      exact ⟨_, rfl, Or.inr (Or.inr (⟨rfl, hc, rfl⟩))⟩

set_option maxHeartbeats 600000 in
set_option maxRecDepth 100000 in
theorem c_L_problem (g : GG) (M : Mem) (c l : Int) (C : CR M) (hc : rg c) (hl : rg l) (hst : g.1.stackTraces = false) : Cw g yL_problem cL_problem 5 [(0, 10, 13, 13), (0, 10, 17, 15)] 2 [rv g 0, iv c, iv l, rv g 497] M (pI (fun kw Mw => (kw = 0 ∧ ∃ z Mc, (((0 ≤ c ∧ c ≤ 3) ∧ 1 ≤ l ∧ l ≤ 400) ∧ M 0 10 < 5 ∧ z = M 0 10 ∧ Mc = up (up (up M (20 * M 0 10 + 48) 1 c) (20 * M 0 10 + 48) 2 l) 0 10 (M 0 10 + 1)) ∧ Mw = up Mc 497 0 (wr z)) ∨ (kw = 1 ∧ (¬ ((0 ≤ c ∧ c ≤ 3) ∧ 1 ≤ l ∧ l ≤ 400)) ∧ Mw = M) ∨ (kw = 2 ∧ (((0 ≤ c ∧ c ≤ 3) ∧ 1 ≤ l ∧ l ≤ 400) ∧ M 0 10 = 5) ∧ Mw = M))) := by
  refine cw_of (by decide +kernel) rfl (Nat.le_of_ble_eq_true rfl) ?_
  show Okw g cL_problem 5 [(0, 10, 13, 13), (0, 10, 17, 15)] (rmw 2) (FQw g (pI (fun kw Mw => (kw = 0 ∧ ∃ z Mc, (((0 ≤ c ∧ c ≤ 3) ∧ 1 ≤ l ∧ l ≤ 400) ∧ M 0 10 < 5 ∧ z = M 0 10 ∧ Mc = up (up (up M (20 * M 0 10 + 48) 1 c) (20 * M 0 10 + 48) 2 l) 0 10 (M 0 10 + 1)) ∧ Mw = up Mc 497 0 (wr z)) ∨ (kw = 1 ∧ (¬ ((0 ≤ c ∧ c ≤ 3) ∧ 1 ≤ l ∧ l ≤ 400)) ∧ Mw = M) ∨ (kw = 2 ∧ (((0 ≤ c ∧ c ≤ 3) ∧ 1 ≤ l ∧ l ≤ 400) ∧ M 0 10 = 5) ∧ Mw = M)))) 0 0 0 [(0, rv g 0), (1, iv c), (2, iv l), (3, rv g 497)] [] M
  refine y_aload_n 3 dL_problem_0 rfl rfl ?_
  refine y_iconst (0) dL_problem_1 rfl ?_
  refine y_aload_n 0 dL_problem_2 rfl rfl ?_
  refine y_iload_n 1 dL_problem_3 rfl rfl ?_
  refine y_iload_n 2 dL_problem_4 rfl rfl ?_
  refine y_call (as := [iv c, iv l]) (rest := [iv 0, rv g 497]) dL_problem_5 vlL_21 k_0 (c_X8_problem g M c l C hc hl hst) rfl rfl (Nat.le_of_ble_eq_true rfl) ⟨Nat.le_of_ble_eq_true rfl, Nat.le_of_ble_eq_true rfl, Nat.le_of_ble_eq_true rfl, Nat.le_of_ble_eq_true rfl⟩ (fun v M1 hv => ?_) (fun E M1 hE => ?_)
  · obtain ⟨z, rfl, hq⟩ := hv
    refine y_i2l dL_problem_8 ?_
    refine y_lastore dL_problem_9 ?_
    refine y_goto (tgt := 21) dL_problem_10 (by decide) ?_
    refine y_iconst (0) dL_problem_21 rfl ?_
    refine y_iret dL_problem_22 ?_
    exact ⟨_, rfl, Or.inl ⟨rfl, z, M1, hq, rfl⟩⟩
  · rcases hE with ⟨rfl, hc, rfl⟩ | ⟨rfl, hc, rfl⟩
    · refine y_catch [] [(0, 10, 17, 15)] rfl ⟨by omega, by omega⟩ (by decide) (inr8 _ (List.mem_of_getElem? (i := 0) rfl)) (List.mem_of_getElem? (i := 3) rfl) (fun _ h => nomatch h) (fun q => ?_)
      refine y_astore (lv' := [(4, .ref q), (0, rv g 0), (1, iv c), (2, iv l), (3, rv g 497)]) dL_problem_13 (Nat.le_of_ble_eq_true rfl) rfl ?_
      refine y_iconst (1) dL_problem_15 rfl ?_
      refine y_iret dL_problem_16 ?_
      exact ⟨_, rfl, Or.inr (Or.inl ⟨rfl, hc, rfl⟩)⟩
    · refine y_catch [(0, 10, 13, 13)] [] rfl ⟨by omega, by omega⟩ (by decide) (inr8 _ (List.mem_of_getElem? (i := 1) rfl)) (List.mem_of_getElem? (i := 4) rfl) (List.forall_mem_cons.mpr ⟨⟨by decide, "java/lang/IllegalArgumentException", inr8 _ (List.mem_of_getElem? (i := 0) rfl), List.mem_of_getElem? (i := 0) rfl⟩, fun _ h => nomatch h⟩) (fun q => ?_)
      refine y_astore (lv' := [(4, .ref q), (0, rv g 0), (1, iv c), (2, iv l), (3, rv g 497)]) dL_problem_17 (Nat.le_of_ble_eq_true rfl) rfl ?_
      refine y_iconst (2) dL_problem_19 rfl ?_
      refine y_iret dL_problem_20 ?_
      exact ⟨_, rfl, Or.inr (Or.inr (⟨rfl, hc, rfl⟩))⟩

set_option maxHeartbeats 600000 in
set_option maxRecDepth 100000 in
theorem c_L_test (g : GG) (M : Mem) (p : Int) (b : Int → BSt) (C : CR M) (hp : rg p) (hPG : ∀ r, 0 ≤ r → r < M 0 12 → PG M (8 * r + 149)) (h5 : NU M 5) (hI : SI M (-1)) (hD : DKs M) (hb : ∀ c, 0 ≤ c → c < 4 → RAb M c (b c) ∧ QS 50000 (b c)) (hst : g.1.stackTraces = false) : Cw g yL_test cL_test 4 [(0, 9, 12, 29), (0, 9, 15, 15)] 6 [rv g 0, iv p, rv g 497] M (pI (fun kw Mw => (kw = 0 ∧ ∃ z Mc, (((0 ≤ p ∧ p < M 0 10) ∧ M (20 * p + 48) 3 < 6) ∧ ∃ M2, CPY M p (M (20 * p + 48) 3) (M (20 * p + 48) 3 + 1) M2 ∧ JAW M2 p (M (20 * p + 48) 3) (b (M (20 * p + 48) 1)) z Mc) ∧ Mw = up Mc 497 0 (wr z)) ∨ (kw = 1 ∧ (p < 0 ∨ M 0 10 ≤ p) ∧ Mw = M) ∨ (kw = 2 ∧ ((0 ≤ p ∧ p < M 0 10) ∧ M (20 * p + 48) 3 = 6) ∧ Mw = M))) := by
  refine cw_of (by decide +kernel) rfl (Nat.le_of_ble_eq_true rfl) ?_
  show Okw g cL_test 4 [(0, 9, 12, 29), (0, 9, 15, 15)] (rmw 6) (FQw g (pI (fun kw Mw => (kw = 0 ∧ ∃ z Mc, (((0 ≤ p ∧ p < M 0 10) ∧ M (20 * p + 48) 3 < 6) ∧ ∃ M2, CPY M p (M (20 * p + 48) 3) (M (20 * p + 48) 3 + 1) M2 ∧ JAW M2 p (M (20 * p + 48) 3) (b (M (20 * p + 48) 1)) z Mc) ∧ Mw = up Mc 497 0 (wr z)) ∨ (kw = 1 ∧ (p < 0 ∨ M 0 10 ≤ p) ∧ Mw = M) ∨ (kw = 2 ∧ ((0 ≤ p ∧ p < M 0 10) ∧ M (20 * p + 48) 3 = 6) ∧ Mw = M)))) 0 0 0 [(0, rv g 0), (1, iv p), (2, rv g 497)] [] M
  refine y_aload_n 2 dL_test_0 rfl rfl ?_
  refine y_iconst (0) dL_test_1 rfl ?_
  refine y_aload_n 0 dL_test_2 rfl rfl ?_
  refine y_iload_n 1 dL_test_3 rfl rfl ?_
  refine y_call (as := [iv p]) (rest := [iv 0, rv g 497]) dL_test_4 vlL_25 k_0 (c_X8_test g M p b C hp hPG h5 hI hD hb hst) rfl rfl (Nat.le_of_ble_eq_true rfl) ⟨Nat.le_of_ble_eq_true rfl, Nat.le_of_ble_eq_true rfl, Nat.le_of_ble_eq_true rfl, Nat.le_of_ble_eq_true rfl⟩ (fun v M1 hv => ?_) (fun E M1 hE => ?_)
  · obtain ⟨z, rfl, hq⟩ := hv
    refine y_i2l dL_test_7 ?_
    refine y_lastore dL_test_8 ?_
    refine y_goto (tgt := 18) dL_test_9 (by decide) ?_
    refine y_iconst (0) dL_test_18 rfl ?_
    refine y_iret dL_test_19 ?_
    exact ⟨_, rfl, Or.inl ⟨rfl, z, M1, hq, rfl⟩⟩
  · rcases hE with ⟨rfl, hc, rfl⟩ | ⟨rfl, hc, rfl⟩
    · refine y_catch [] [(0, 9, 15, 15)] rfl ⟨by omega, by omega⟩ (by decide) (inr12 _ (List.mem_of_getElem? (i := 9) rfl)) (List.mem_of_getElem? (i := 5) rfl) (fun _ h => nomatch h) (fun q => ?_)
      refine y_astore_n (lv' := [(3, .ref q), (0, rv g 0), (1, iv p), (2, rv g 497)]) dL_test_12 rfl (Nat.le_of_ble_eq_true rfl) rfl ?_
      refine y_iconst (1) dL_test_13 rfl ?_
      refine y_iret dL_test_14 ?_
      exact ⟨_, rfl, Or.inr (Or.inl ⟨rfl, hc, rfl⟩)⟩
    · refine y_catch [(0, 9, 12, 29)] [] rfl ⟨by omega, by omega⟩ (by decide) (inr8 _ (List.mem_of_getElem? (i := 1) rfl)) (List.mem_of_getElem? (i := 4) rfl) (List.forall_mem_cons.mpr ⟨⟨by decide, "java/lang/IndexOutOfBoundsException", inr12 _ (List.mem_of_getElem? (i := 9) rfl), List.mem_of_getElem? (i := 1) rfl⟩, fun _ h => nomatch h⟩) (fun q => ?_)
      refine y_astore_n (lv' := [(3, .ref q), (0, rv g 0), (1, iv p), (2, rv g 497)]) dL_test_15 rfl (Nat.le_of_ble_eq_true rfl) rfl ?_
      refine y_iconst (2) dL_test_16 rfl ?_
      refine y_iret dL_test_17 ?_
      exact ⟨_, rfl, Or.inr (Or.inr (⟨rfl, hc, rfl⟩))⟩

set_option maxHeartbeats 600000 in
set_option maxRecDepth 100000 in
theorem c_L_fix (g : GG) (M : Mem) (p t : Int) (b : Int → BSt) (C : CR M) (hp : rg p) (ht : rg t) (hPG : ∀ r, 0 ≤ r → r < M 0 12 → PG M (8 * r + 149)) (h5 : NU M 5) (hI : SI M (-1)) (hD : DKs M) (hb : ∀ c, 0 ≤ c → c < 4 → RAb M c (b c) ∧ QS 50000 (b c)) (hst : g.1.stackTraces = false) : Cw g yL_fix cL_fix 5 [(0, 10, 13, 29)] 6 [rv g 0, iv p, iv t, rv g 497] M (pI (fun kw Mw => (kw = 0 ∧ ∃ z Mc, (((0 ≤ p ∧ p < M 0 10) ∧ 0 ≤ t ∧ t < M (20 * p + 48) 3) ∧ ∃ M2, CPY M p t (M (20 * p + 48) 3) M2 ∧ JAW M2 p t (b (M (20 * p + 48) 1)) z Mc) ∧ Mw = up Mc 497 0 (wr z)) ∨ (kw = 1 ∧ (¬ ((0 ≤ p ∧ p < M 0 10) ∧ 0 ≤ t ∧ t < M (20 * p + 48) 3)) ∧ Mw = M))) := by
  refine cw_of (by decide +kernel) rfl (Nat.le_of_ble_eq_true rfl) ?_
  show Okw g cL_fix 5 [(0, 10, 13, 29)] (rmw 6) (FQw g (pI (fun kw Mw => (kw = 0 ∧ ∃ z Mc, (((0 ≤ p ∧ p < M 0 10) ∧ 0 ≤ t ∧ t < M (20 * p + 48) 3) ∧ ∃ M2, CPY M p t (M (20 * p + 48) 3) M2 ∧ JAW M2 p t (b (M (20 * p + 48) 1)) z Mc) ∧ Mw = up Mc 497 0 (wr z)) ∨ (kw = 1 ∧ (¬ ((0 ≤ p ∧ p < M 0 10) ∧ 0 ≤ t ∧ t < M (20 * p + 48) 3)) ∧ Mw = M)))) 0 0 0 [(0, rv g 0), (1, iv p), (2, iv t), (3, rv g 497)] [] M
  refine y_aload_n 3 dL_fix_0 rfl rfl ?_
  refine y_iconst (0) dL_fix_1 rfl ?_
  refine y_aload_n 0 dL_fix_2 rfl rfl ?_
  refine y_iload_n 1 dL_fix_3 rfl rfl ?_
  refine y_iload_n 2 dL_fix_4 rfl rfl ?_
  refine y_call (as := [iv p, iv t]) (rest := [iv 0, rv g 497]) dL_fix_5 vlL_31 k_0 (c_X8_fix g M p t b C hp ht hPG h5 hI hD hb hst) rfl rfl (Nat.le_of_ble_eq_true rfl) ⟨Nat.le_of_ble_eq_true rfl, Nat.le_of_ble_eq_true rfl, Nat.le_of_ble_eq_true rfl, Nat.le_of_ble_eq_true rfl⟩ (fun v M1 hv => ?_) (fun E M1 hE => ?_)
  · obtain ⟨z, rfl, hq⟩ := hv
    refine y_i2l dL_fix_8 ?_
    refine y_lastore dL_fix_9 ?_
    refine y_goto (tgt := 17) dL_fix_10 (by decide) ?_
    refine y_iconst (0) dL_fix_17 rfl ?_
    refine y_iret dL_fix_18 ?_
    exact ⟨_, rfl, Or.inl ⟨rfl, z, M1, hq, rfl⟩⟩
  · rcases hE with ⟨rfl, hc, rfl⟩
    refine y_catch [] [] rfl ⟨by omega, by omega⟩ (by decide) (inr12 _ (List.mem_of_getElem? (i := 9) rfl)) (List.mem_of_getElem? (i := 5) rfl) (fun _ h => nomatch h) (fun q => ?_)
    refine y_astore (lv' := [(4, .ref q), (0, rv g 0), (1, iv p), (2, iv t), (3, rv g 497)]) dL_fix_13 (Nat.le_of_ble_eq_true rfl) rfl ?_
    refine y_iconst (1) dL_fix_15 rfl ?_
    refine y_iret dL_fix_16 ?_
    exact ⟨_, rfl, Or.inr (⟨rfl, hc, rfl⟩)⟩

set_option maxHeartbeats 600000 in
set_option maxRecDepth 100000 in
theorem c_L_tests (g : GG) (M : Mem) (p : Int) (C : CR M) (hp : rg p) (hst : g.1.stackTraces = false) : Cw g yL_tests cL_tests 4 [(0, 9, 12, 29)] 2 [rv g 0, iv p, rv g 497] M (pI (fun kw Mw => (kw = 0 ∧ ∃ z Mc, (Mc = M ∧ (0 ≤ p ∧ p < M 0 10 ∧ z = M (20 * p + 48) 3)) ∧ Mw = up Mc 497 0 (wr z)) ∨ (kw = 1 ∧ (p < 0 ∨ M 0 10 ≤ p) ∧ Mw = M))) := by
  refine cw_of (by decide +kernel) rfl (Nat.le_of_ble_eq_true rfl) ?_
  show Okw g cL_tests 4 [(0, 9, 12, 29)] (rmw 2) (FQw g (pI (fun kw Mw => (kw = 0 ∧ ∃ z Mc, (Mc = M ∧ (0 ≤ p ∧ p < M 0 10 ∧ z = M (20 * p + 48) 3)) ∧ Mw = up Mc 497 0 (wr z)) ∨ (kw = 1 ∧ (p < 0 ∨ M 0 10 ≤ p) ∧ Mw = M)))) 0 0 0 [(0, rv g 0), (1, iv p), (2, rv g 497)] [] M
  refine y_aload_n 2 dL_tests_0 rfl rfl ?_
  refine y_iconst (0) dL_tests_1 rfl ?_
  refine y_aload_n 0 dL_tests_2 rfl rfl ?_
  refine y_iload_n 1 dL_tests_3 rfl rfl ?_
  refine y_call (as := [iv p]) (rest := [iv 0, rv g 497]) dL_tests_4 vlL_34 k_0 (c_X8_tests g M p C hp hst) rfl rfl (Nat.le_of_ble_eq_true rfl) ⟨Nat.le_of_ble_eq_true rfl, Nat.le_of_ble_eq_true rfl, Nat.le_of_ble_eq_true rfl, Nat.le_of_ble_eq_true rfl⟩ (fun v M1 hv => ?_) (fun E M1 hE => ?_)
  · obtain ⟨z, rfl, hq⟩ := hv
    refine y_i2l dL_tests_7 ?_
    refine y_lastore dL_tests_8 ?_
    refine y_goto (tgt := 15) dL_tests_9 (by decide) ?_
    refine y_iconst (0) dL_tests_15 rfl ?_
    refine y_iret dL_tests_16 ?_
    exact ⟨_, rfl, Or.inl ⟨rfl, z, M1, hq, rfl⟩⟩
  · rcases hE with ⟨rfl, hc, rfl⟩
    refine y_catch [] [] rfl ⟨by omega, by omega⟩ (by decide) (inr12 _ (List.mem_of_getElem? (i := 9) rfl)) (List.mem_of_getElem? (i := 5) rfl) (fun _ h => nomatch h) (fun q => ?_)
    refine y_astore_n (lv' := [(3, .ref q), (0, rv g 0), (1, iv p), (2, rv g 497)]) dL_tests_12 rfl (Nat.le_of_ble_eq_true rfl) rfl ?_
    refine y_iconst (1) dL_tests_13 rfl ?_
    refine y_iret dL_tests_14 ?_
    exact ⟨_, rfl, Or.inr (⟨rfl, hc, rfl⟩)⟩

set_option maxHeartbeats 600000 in
set_option maxRecDepth 100000 in
theorem c_L_team (g : GG) (M : Mem)  (C : CR M) (hst : g.1.stackTraces = false) : Cw g yL_team cL_team 3 [(0, 8, 11, 15)] 4 [rv g 0, rv g 497] M (pI (fun kw Mw => (kw = 0 ∧ ∃ z Mc, (M 0 11 < 8 ∧ z = M 0 11 ∧ (∀ a k, ¬ (27 ≤ a ∧ a ≤ 40) → Mc a k = up M 0 11 (M 0 11 + 1) a k) ∧ BOK Mc 27 0 ∧ BOK Mc 34 1) ∧ Mw = up Mc 497 0 (wr z)) ∨ (kw = 1 ∧ (M 0 11 = 8) ∧ Mw = M))) := by
  refine cw_of (by decide +kernel) rfl (Nat.le_of_ble_eq_true rfl) ?_
  show Okw g cL_team 3 [(0, 8, 11, 15)] (rmw 4) (FQw g (pI (fun kw Mw => (kw = 0 ∧ ∃ z Mc, (M 0 11 < 8 ∧ z = M 0 11 ∧ (∀ a k, ¬ (27 ≤ a ∧ a ≤ 40) → Mc a k = up M 0 11 (M 0 11 + 1) a k) ∧ BOK Mc 27 0 ∧ BOK Mc 34 1) ∧ Mw = up Mc 497 0 (wr z)) ∨ (kw = 1 ∧ (M 0 11 = 8) ∧ Mw = M)))) 0 0 0 [(0, rv g 0), (1, rv g 497)] [] M
  refine y_aload_n 1 dL_team_0 rfl rfl ?_
  refine y_iconst (0) dL_team_1 rfl ?_
  refine y_aload_n 0 dL_team_2 rfl rfl ?_
  refine y_call (as := []) (rest := [iv 0, rv g 497]) dL_team_3 vlL_37 k_0 (c_X8_team g M C hst) rfl rfl (Nat.le_of_ble_eq_true rfl) ⟨Nat.le_of_ble_eq_true rfl, Nat.le_of_ble_eq_true rfl, Nat.le_of_ble_eq_true rfl, Nat.le_of_ble_eq_true rfl⟩ (fun v M1 hv => ?_) (fun E M1 hE => ?_)
  · obtain ⟨z, rfl, hq⟩ := hv
    refine y_i2l dL_team_6 ?_
    refine y_lastore dL_team_7 ?_
    refine y_goto (tgt := 14) dL_team_8 (by decide) ?_
    refine y_iconst (0) dL_team_14 rfl ?_
    refine y_iret dL_team_15 ?_
    exact ⟨_, rfl, Or.inl ⟨rfl, z, M1, hq, rfl⟩⟩
  · rcases hE with ⟨rfl, hc, rfl⟩
    refine y_catch [] [] rfl ⟨by omega, by omega⟩ (by decide) (inr8 _ (List.mem_of_getElem? (i := 1) rfl)) (List.mem_of_getElem? (i := 4) rfl) (fun _ h => nomatch h) (fun q => ?_)
    refine y_astore_n (lv' := [(2, .ref q), (0, rv g 0), (1, rv g 497)]) dL_team_11 rfl (Nat.le_of_ble_eq_true rfl) rfl ?_
    refine y_iconst (1) dL_team_12 rfl ?_
    refine y_iret dL_team_13 ?_
    exact ⟨_, rfl, Or.inr (⟨rfl, hc, rfl⟩)⟩

set_option maxHeartbeats 600000 in
set_option maxRecDepth 100000 in
theorem c_L_submit (g : GG) (M : Mem) (t p mn : Int) (b : Int → BSt) (C : CR M) (ht : rg t) (hp : rg p) (hmn : rg mn) (h1 : PG M 1) (hN : ∀ p u, 0 ≤ p → p < M 0 10 → 0 ≤ u → u < M (20 * p + 48) 3 → NU M (20 * p + 3 * u + 50)) (hI : SI M (-1)) (hD : DKs M) (hb : ∀ c, 0 ≤ c → c < 4 → RAb M c (b c) ∧ QS 50000 (b c)) (hst : g.1.stackTraces = false) : Cw g yL_submit cL_submit 6 [(0, 12, 15, 29), (0, 12, 19, 13), (0, 12, 23, 15)] 6 [rv g 0, iv t, iv p, iv mn, rv g 497] M (pI (fun kw Mw => (kw = 0 ∧ ∃ z Mc, ((((0 ≤ t ∧ t < M 0 11) ∧ 0 ≤ p ∧ p < M 0 10) ∧ (0 ≤ mn ∧ mn ≤ 999 ∧ (M 0 12 = 0 ∨ M (8 * M 0 12 + 140) 6 ≤ mn)) ∧ M 0 12 < 40) ∧ z = M 0 12 ∧ ∃ M2 M3, SBM M t p mn M2 ∧ JBA M2 (M 0 12) (M (20 * p + 48) 3) M3 ∧ CR M3 ∧ DKs M3 ∧ (∀ o k, ¬ (17 ≤ o ∧ o ≤ 40) → Mc o k = M3 o k) ∧ BOK Mc 27 0 ∧ BOK Mc 34 1 ∧ RAb Mc (M (20 * p + 48) 1) (fFo (fun u => Mc 29 (5 * u + p) ≠ -1) p (M 0 11) (b (M (20 * p + 48) 1))) ∧ ∀ o k, 17 ≤ o → o ≤ 26 → o ≠ 18 → o ≠ M (20 * p + 48) 1 + 20 → ¬ (k = M (20 * p + 48) 1 ∧ 24 ≤ o) → ¬ (o = 17 ∧ k = 5) → Mc o k = M o k) ∧ Mw = up Mc 497 0 (wr z)) ∨ (kw = 1 ∧ (¬ ((0 ≤ t ∧ t < M 0 11) ∧ 0 ≤ p ∧ p < M 0 10)) ∧ Mw = M) ∨ (kw = 2 ∧ (((0 ≤ t ∧ t < M 0 11) ∧ 0 ≤ p ∧ p < M 0 10) ∧ ¬ (0 ≤ mn ∧ mn ≤ 999 ∧ (M 0 12 = 0 ∨ M (8 * M 0 12 + 140) 6 ≤ mn))) ∧ Mw = M) ∨ (kw = 3 ∧ (((0 ≤ t ∧ t < M 0 11) ∧ 0 ≤ p ∧ p < M 0 10) ∧ (0 ≤ mn ∧ mn ≤ 999 ∧ (M 0 12 = 0 ∨ M (8 * M 0 12 + 140) 6 ≤ mn)) ∧ M 0 12 = 40) ∧ Mw = M))) := by
  refine cw_of (by decide +kernel) rfl (Nat.le_of_ble_eq_true rfl) ?_
  show Okw g cL_submit 6 [(0, 12, 15, 29), (0, 12, 19, 13), (0, 12, 23, 15)] (rmw 6) (FQw g (pI (fun kw Mw => (kw = 0 ∧ ∃ z Mc, ((((0 ≤ t ∧ t < M 0 11) ∧ 0 ≤ p ∧ p < M 0 10) ∧ (0 ≤ mn ∧ mn ≤ 999 ∧ (M 0 12 = 0 ∨ M (8 * M 0 12 + 140) 6 ≤ mn)) ∧ M 0 12 < 40) ∧ z = M 0 12 ∧ ∃ M2 M3, SBM M t p mn M2 ∧ JBA M2 (M 0 12) (M (20 * p + 48) 3) M3 ∧ CR M3 ∧ DKs M3 ∧ (∀ o k, ¬ (17 ≤ o ∧ o ≤ 40) → Mc o k = M3 o k) ∧ BOK Mc 27 0 ∧ BOK Mc 34 1 ∧ RAb Mc (M (20 * p + 48) 1) (fFo (fun u => Mc 29 (5 * u + p) ≠ -1) p (M 0 11) (b (M (20 * p + 48) 1))) ∧ ∀ o k, 17 ≤ o → o ≤ 26 → o ≠ 18 → o ≠ M (20 * p + 48) 1 + 20 → ¬ (k = M (20 * p + 48) 1 ∧ 24 ≤ o) → ¬ (o = 17 ∧ k = 5) → Mc o k = M o k) ∧ Mw = up Mc 497 0 (wr z)) ∨ (kw = 1 ∧ (¬ ((0 ≤ t ∧ t < M 0 11) ∧ 0 ≤ p ∧ p < M 0 10)) ∧ Mw = M) ∨ (kw = 2 ∧ (((0 ≤ t ∧ t < M 0 11) ∧ 0 ≤ p ∧ p < M 0 10) ∧ ¬ (0 ≤ mn ∧ mn ≤ 999 ∧ (M 0 12 = 0 ∨ M (8 * M 0 12 + 140) 6 ≤ mn))) ∧ Mw = M) ∨ (kw = 3 ∧ (((0 ≤ t ∧ t < M 0 11) ∧ 0 ≤ p ∧ p < M 0 10) ∧ (0 ≤ mn ∧ mn ≤ 999 ∧ (M 0 12 = 0 ∨ M (8 * M 0 12 + 140) 6 ≤ mn)) ∧ M 0 12 = 40) ∧ Mw = M)))) 0 0 0 [(0, rv g 0), (1, iv t), (2, iv p), (3, iv mn), (4, rv g 497)] [] M
  refine y_aload 4 dL_submit_0 rfl ?_
  refine y_iconst (0) dL_submit_2 rfl ?_
  refine y_aload_n 0 dL_submit_3 rfl rfl ?_
  refine y_iload_n 1 dL_submit_4 rfl rfl ?_
  refine y_iload_n 2 dL_submit_5 rfl rfl ?_
  refine y_iload_n 3 dL_submit_6 rfl rfl ?_
  refine y_call (as := [iv t, iv p, iv mn]) (rest := [iv 0, rv g 497]) dL_submit_7 vlL_41 k_0 (c_X8_submit g M t p mn b C ht hp hmn h1 hN hI hD hb hst) rfl rfl (Nat.le_of_ble_eq_true rfl) ⟨Nat.le_of_ble_eq_true rfl, Nat.le_of_ble_eq_true rfl, Nat.le_of_ble_eq_true rfl, Nat.le_of_ble_eq_true rfl⟩ (fun v M1 hv => ?_) (fun E M1 hE => ?_)
  · obtain ⟨z, rfl, hq⟩ := hv
    refine y_i2l dL_submit_10 ?_
    refine y_lastore dL_submit_11 ?_
    refine y_goto (tgt := 27) dL_submit_12 (by decide) ?_
    refine y_iconst (0) dL_submit_27 rfl ?_
    refine y_iret dL_submit_28 ?_
    exact ⟨_, rfl, Or.inl ⟨rfl, z, M1, hq, rfl⟩⟩
  · rcases hE with ⟨rfl, hc, rfl⟩ | ⟨rfl, hc, rfl⟩ | ⟨rfl, hc, rfl⟩
    · refine y_catch [] [(0, 12, 19, 13), (0, 12, 23, 15)] rfl ⟨by omega, by omega⟩ (by decide) (inr12 _ (List.mem_of_getElem? (i := 9) rfl)) (List.mem_of_getElem? (i := 5) rfl) (fun _ h => nomatch h) (fun q => ?_)
      refine y_astore (lv' := [(5, .ref q), (0, rv g 0), (1, iv t), (2, iv p), (3, iv mn), (4, rv g 497)]) dL_submit_15 (Nat.le_of_ble_eq_true rfl) rfl ?_
      refine y_iconst (1) dL_submit_17 rfl ?_
      refine y_iret dL_submit_18 ?_
      exact ⟨_, rfl, Or.inr (Or.inl ⟨rfl, hc, rfl⟩)⟩
    · refine y_catch [(0, 12, 15, 29)] [(0, 12, 23, 15)] rfl ⟨by omega, by omega⟩ (by decide) (inr8 _ (List.mem_of_getElem? (i := 0) rfl)) (List.mem_of_getElem? (i := 3) rfl) (List.forall_mem_cons.mpr ⟨⟨by decide, "java/lang/IndexOutOfBoundsException", inr12 _ (List.mem_of_getElem? (i := 9) rfl), List.mem_of_getElem? (i := 2) rfl⟩, fun _ h => nomatch h⟩) (fun q => ?_)
      refine y_astore (lv' := [(5, .ref q), (0, rv g 0), (1, iv t), (2, iv p), (3, iv mn), (4, rv g 497)]) dL_submit_19 (Nat.le_of_ble_eq_true rfl) rfl ?_
      refine y_iconst (2) dL_submit_21 rfl ?_
      refine y_iret dL_submit_22 ?_
      exact ⟨_, rfl, Or.inr (Or.inr (Or.inl ⟨rfl, hc, rfl⟩))⟩
    · refine y_catch [(0, 12, 15, 29), (0, 12, 19, 13)] [] rfl ⟨by omega, by omega⟩ (by decide) (inr8 _ (List.mem_of_getElem? (i := 1) rfl)) (List.mem_of_getElem? (i := 4) rfl) (List.forall_mem_cons.mpr ⟨⟨by decide, "java/lang/IndexOutOfBoundsException", inr12 _ (List.mem_of_getElem? (i := 9) rfl), List.mem_of_getElem? (i := 1) rfl⟩, List.forall_mem_cons.mpr ⟨⟨by decide, "java/lang/IllegalArgumentException", inr8 _ (List.mem_of_getElem? (i := 0) rfl), List.mem_of_getElem? (i := 0) rfl⟩, fun _ h => nomatch h⟩⟩) (fun q => ?_)
      refine y_astore (lv' := [(5, .ref q), (0, rv g 0), (1, iv t), (2, iv p), (3, iv mn), (4, rv g 497)]) dL_submit_23 (Nat.le_of_ble_eq_true rfl) rfl ?_
      refine y_iconst (3) dL_submit_25 rfl ?_
      refine y_iret dL_submit_26 ?_
      exact ⟨_, rfl, Or.inr (Or.inr (Or.inr (⟨rfl, hc, rfl⟩)))⟩

set_option maxHeartbeats 600000 in
set_option maxRecDepth 100000 in
theorem c_L_verdict (g : GG) (M : Mem) (r : Int) (C : CR M) (hr : rg r) (hst : g.1.stackTraces = false) : Cw g yL_verdict cL_verdict 4 [(0, 9, 12, 29)] 2 [rv g 0, iv r, rv g 497] M (pI (fun kw Mw => (kw = 0 ∧ ∃ z Mc, (Mc = M ∧ (0 ≤ r ∧ r < M 0 12 ∧ z = M (8 * r + 148) 8)) ∧ Mw = up Mc 497 0 (wr z)) ∨ (kw = 1 ∧ (r < 0 ∨ M 0 12 ≤ r) ∧ Mw = M))) := by
  refine cw_of (by decide +kernel) rfl (Nat.le_of_ble_eq_true rfl) ?_
  show Okw g cL_verdict 4 [(0, 9, 12, 29)] (rmw 2) (FQw g (pI (fun kw Mw => (kw = 0 ∧ ∃ z Mc, (Mc = M ∧ (0 ≤ r ∧ r < M 0 12 ∧ z = M (8 * r + 148) 8)) ∧ Mw = up Mc 497 0 (wr z)) ∨ (kw = 1 ∧ (r < 0 ∨ M 0 12 ≤ r) ∧ Mw = M)))) 0 0 0 [(0, rv g 0), (1, iv r), (2, rv g 497)] [] M
  refine y_aload_n 2 dL_verdict_0 rfl rfl ?_
  refine y_iconst (0) dL_verdict_1 rfl ?_
  refine y_aload_n 0 dL_verdict_2 rfl rfl ?_
  refine y_iload_n 1 dL_verdict_3 rfl rfl ?_
  refine y_call (as := [iv r]) (rest := [iv 0, rv g 497]) dL_verdict_4 vlL_45 k_0 (c_X8_verdict g M r C hr hst) rfl rfl (Nat.le_of_ble_eq_true rfl) ⟨Nat.le_of_ble_eq_true rfl, Nat.le_of_ble_eq_true rfl, Nat.le_of_ble_eq_true rfl, Nat.le_of_ble_eq_true rfl⟩ (fun v M1 hv => ?_) (fun E M1 hE => ?_)
  · obtain ⟨z, rfl, hq⟩ := hv
    refine y_i2l dL_verdict_7 ?_
    refine y_lastore dL_verdict_8 ?_
    refine y_goto (tgt := 15) dL_verdict_9 (by decide) ?_
    refine y_iconst (0) dL_verdict_15 rfl ?_
    refine y_iret dL_verdict_16 ?_
    exact ⟨_, rfl, Or.inl ⟨rfl, z, M1, hq, rfl⟩⟩
  · rcases hE with ⟨rfl, hc, rfl⟩
    refine y_catch [] [] rfl ⟨by omega, by omega⟩ (by decide) (inr12 _ (List.mem_of_getElem? (i := 9) rfl)) (List.mem_of_getElem? (i := 5) rfl) (fun _ h => nomatch h) (fun q => ?_)
    refine y_astore_n (lv' := [(3, .ref q), (0, rv g 0), (1, iv r), (2, rv g 497)]) dL_verdict_12 rfl (Nat.le_of_ble_eq_true rfl) rfl ?_
    refine y_iconst (1) dL_verdict_13 rfl ?_
    refine y_iret dL_verdict_14 ?_
    exact ⟨_, rfl, Or.inr (⟨rfl, hc, rfl⟩)⟩

set_option maxHeartbeats 600000 in
set_option maxRecDepth 100000 in
theorem c_L_failed (g : GG) (M : Mem) (r : Int) (C : CR M) (hr : rg r) (hst : g.1.stackTraces = false) : Cw g yL_failed cL_failed 4 [(0, 9, 12, 29)] 2 [rv g 0, iv r, rv g 497] M (pI (fun kw Mw => (kw = 0 ∧ ∃ z Mc, (Mc = M ∧ (0 ≤ r ∧ r < M 0 12 ∧ z = M (8 * r + 148) 9)) ∧ Mw = up Mc 497 0 (wr z)) ∨ (kw = 1 ∧ (r < 0 ∨ M 0 12 ≤ r) ∧ Mw = M))) := by
  refine cw_of (by decide +kernel) rfl (Nat.le_of_ble_eq_true rfl) ?_
  show Okw g cL_failed 4 [(0, 9, 12, 29)] (rmw 2) (FQw g (pI (fun kw Mw => (kw = 0 ∧ ∃ z Mc, (Mc = M ∧ (0 ≤ r ∧ r < M 0 12 ∧ z = M (8 * r + 148) 9)) ∧ Mw = up Mc 497 0 (wr z)) ∨ (kw = 1 ∧ (r < 0 ∨ M 0 12 ≤ r) ∧ Mw = M)))) 0 0 0 [(0, rv g 0), (1, iv r), (2, rv g 497)] [] M
  refine y_aload_n 2 dL_failed_0 rfl rfl ?_
  refine y_iconst (0) dL_failed_1 rfl ?_
  refine y_aload_n 0 dL_failed_2 rfl rfl ?_
  refine y_iload_n 1 dL_failed_3 rfl rfl ?_
  refine y_call (as := [iv r]) (rest := [iv 0, rv g 497]) dL_failed_4 vlL_49 k_0 (c_X8_failed g M r C hr hst) rfl rfl (Nat.le_of_ble_eq_true rfl) ⟨Nat.le_of_ble_eq_true rfl, Nat.le_of_ble_eq_true rfl, Nat.le_of_ble_eq_true rfl, Nat.le_of_ble_eq_true rfl⟩ (fun v M1 hv => ?_) (fun E M1 hE => ?_)
  · obtain ⟨z, rfl, hq⟩ := hv
    refine y_i2l dL_failed_7 ?_
    refine y_lastore dL_failed_8 ?_
    refine y_goto (tgt := 15) dL_failed_9 (by decide) ?_
    refine y_iconst (0) dL_failed_15 rfl ?_
    refine y_iret dL_failed_16 ?_
    exact ⟨_, rfl, Or.inl ⟨rfl, z, M1, hq, rfl⟩⟩
  · rcases hE with ⟨rfl, hc, rfl⟩
    refine y_catch [] [] rfl ⟨by omega, by omega⟩ (by decide) (inr12 _ (List.mem_of_getElem? (i := 9) rfl)) (List.mem_of_getElem? (i := 5) rfl) (fun _ h => nomatch h) (fun q => ?_)
    refine y_astore_n (lv' := [(3, .ref q), (0, rv g 0), (1, iv r), (2, rv g 497)]) dL_failed_12 rfl (Nat.le_of_ble_eq_true rfl) rfl ?_
    refine y_iconst (1) dL_failed_13 rfl ?_
    refine y_iret dL_failed_14 ?_
    exact ⟨_, rfl, Or.inr (⟨rfl, hc, rfl⟩)⟩

set_option maxHeartbeats 600000 in
set_option maxRecDepth 100000 in
theorem c_L_ended (g : GG) (M : Mem) (r t : Int) (C : CR M) (hr : rg r) (ht : rg t) (hD : DKs M) (hst : g.1.stackTraces = false) : Cw g yL_ended cL_ended 5 [(0, 10, 13, 29)] 3 [rv g 0, iv r, iv t, rv g 497] M (pI (fun kw Mw => (kw = 0 ∧ ∃ z Mc, (Mc = M ∧ ((0 ≤ r ∧ r < M 0 12 ∧ 0 ≤ t ∧ t < M (20 * M (8 * r + 148) 5 + 48) 3) ∧ z = M (8 * r + 153) t)) ∧ Mw = up Mc 497 0 (wr z)) ∨ (kw = 1 ∧ ((r < 0 ∨ M 0 12 ≤ r ∨ (0 ≤ r ∧ r < M 0 12 ∧ (t < 0 ∨ M (20 * M (8 * r + 148) 5 + 48) 3 ≤ t)))) ∧ Mw = M))) := by
  refine cw_of (by decide +kernel) rfl (Nat.le_of_ble_eq_true rfl) ?_
  show Okw g cL_ended 5 [(0, 10, 13, 29)] (rmw 3) (FQw g (pI (fun kw Mw => (kw = 0 ∧ ∃ z Mc, (Mc = M ∧ ((0 ≤ r ∧ r < M 0 12 ∧ 0 ≤ t ∧ t < M (20 * M (8 * r + 148) 5 + 48) 3) ∧ z = M (8 * r + 153) t)) ∧ Mw = up Mc 497 0 (wr z)) ∨ (kw = 1 ∧ ((r < 0 ∨ M 0 12 ≤ r ∨ (0 ≤ r ∧ r < M 0 12 ∧ (t < 0 ∨ M (20 * M (8 * r + 148) 5 + 48) 3 ≤ t)))) ∧ Mw = M)))) 0 0 0 [(0, rv g 0), (1, iv r), (2, iv t), (3, rv g 497)] [] M
  refine y_aload_n 3 dL_ended_0 rfl rfl ?_
  refine y_iconst (0) dL_ended_1 rfl ?_
  refine y_aload_n 0 dL_ended_2 rfl rfl ?_
  refine y_iload_n 1 dL_ended_3 rfl rfl ?_
  refine y_iload_n 2 dL_ended_4 rfl rfl ?_
  refine y_call (as := [iv r, iv t]) (rest := [iv 0, rv g 497]) dL_ended_5 vlL_52 k_0 (c_X8_ended g M r t C hr ht hD hst) rfl rfl (Nat.le_of_ble_eq_true rfl) ⟨Nat.le_of_ble_eq_true rfl, Nat.le_of_ble_eq_true rfl, Nat.le_of_ble_eq_true rfl, Nat.le_of_ble_eq_true rfl⟩ (fun v M1 hv => ?_) (fun E M1 hE => ?_)
  · obtain ⟨z, rfl, hq⟩ := hv
    refine y_i2l dL_ended_8 ?_
    refine y_lastore dL_ended_9 ?_
    refine y_goto (tgt := 17) dL_ended_10 (by decide) ?_
    refine y_iconst (0) dL_ended_17 rfl ?_
    refine y_iret dL_ended_18 ?_
    exact ⟨_, rfl, Or.inl ⟨rfl, z, M1, hq, rfl⟩⟩
  · rcases hE with ⟨rfl, hc, rfl⟩
    refine y_catch [] [] rfl ⟨by omega, by omega⟩ (by decide) (inr12 _ (List.mem_of_getElem? (i := 9) rfl)) (List.mem_of_getElem? (i := 5) rfl) (fun _ h => nomatch h) (fun q => ?_)
    refine y_astore (lv' := [(4, .ref q), (0, rv g 0), (1, iv r), (2, iv t), (3, rv g 497)]) dL_ended_13 (Nat.le_of_ble_eq_true rfl) rfl ?_
    refine y_iconst (1) dL_ended_15 rfl ?_
    refine y_iret dL_ended_16 ?_
    exact ⟨_, rfl, Or.inr (⟨rfl, hc, rfl⟩)⟩

set_option maxHeartbeats 600000 in
set_option maxRecDepth 100000 in
theorem c_L_steps (g : GG) (M : Mem) (r t : Int) (C : CR M) (hr : rg r) (ht : rg t) (hst : g.1.stackTraces = false) : Cw g yL_steps cL_steps 5 [(0, 10, 13, 29)] 3 [rv g 0, iv r, iv t, rv g 497] M (pI (fun kw Mw => (kw = 0 ∧ ∃ z Mc, (Mc = M ∧ ((0 ≤ r ∧ r < M 0 12 ∧ 0 ≤ t ∧ t < M (20 * M (8 * r + 148) 5 + 48) 3) ∧ z = M (8 * r + 154) t)) ∧ Mw = up Mc 497 0 (wr z)) ∨ (kw = 1 ∧ ((r < 0 ∨ M 0 12 ≤ r ∨ (0 ≤ r ∧ r < M 0 12 ∧ (t < 0 ∨ M (20 * M (8 * r + 148) 5 + 48) 3 ≤ t)))) ∧ Mw = M))) := by
  refine cw_of (by decide +kernel) rfl (Nat.le_of_ble_eq_true rfl) ?_
  show Okw g cL_steps 5 [(0, 10, 13, 29)] (rmw 3) (FQw g (pI (fun kw Mw => (kw = 0 ∧ ∃ z Mc, (Mc = M ∧ ((0 ≤ r ∧ r < M 0 12 ∧ 0 ≤ t ∧ t < M (20 * M (8 * r + 148) 5 + 48) 3) ∧ z = M (8 * r + 154) t)) ∧ Mw = up Mc 497 0 (wr z)) ∨ (kw = 1 ∧ ((r < 0 ∨ M 0 12 ≤ r ∨ (0 ≤ r ∧ r < M 0 12 ∧ (t < 0 ∨ M (20 * M (8 * r + 148) 5 + 48) 3 ≤ t)))) ∧ Mw = M)))) 0 0 0 [(0, rv g 0), (1, iv r), (2, iv t), (3, rv g 497)] [] M
  refine y_aload_n 3 dL_steps_0 rfl rfl ?_
  refine y_iconst (0) dL_steps_1 rfl ?_
  refine y_aload_n 0 dL_steps_2 rfl rfl ?_
  refine y_iload_n 1 dL_steps_3 rfl rfl ?_
  refine y_iload_n 2 dL_steps_4 rfl rfl ?_
  refine y_call (as := [iv r, iv t]) (rest := [iv 0, rv g 497]) dL_steps_5 vlL_56 k_0 (c_X8_steps g M r t C hr ht hst) rfl rfl (Nat.le_of_ble_eq_true rfl) ⟨Nat.le_of_ble_eq_true rfl, Nat.le_of_ble_eq_true rfl, Nat.le_of_ble_eq_true rfl, Nat.le_of_ble_eq_true rfl⟩ (fun v M1 hv => ?_) (fun E M1 hE => ?_)
  · obtain ⟨z, rfl, hq⟩ := hv
    refine y_i2l dL_steps_8 ?_
    refine y_lastore dL_steps_9 ?_
    refine y_goto (tgt := 17) dL_steps_10 (by decide) ?_
    refine y_iconst (0) dL_steps_17 rfl ?_
    refine y_iret dL_steps_18 ?_
    exact ⟨_, rfl, Or.inl ⟨rfl, z, M1, hq, rfl⟩⟩
  · rcases hE with ⟨rfl, hc, rfl⟩
    refine y_catch [] [] rfl ⟨by omega, by omega⟩ (by decide) (inr12 _ (List.mem_of_getElem? (i := 9) rfl)) (List.mem_of_getElem? (i := 5) rfl) (fun _ h => nomatch h) (fun q => ?_)
    refine y_astore (lv' := [(4, .ref q), (0, rv g 0), (1, iv r), (2, iv t), (3, rv g 497)]) dL_steps_13 (Nat.le_of_ble_eq_true rfl) rfl ?_
    refine y_iconst (1) dL_steps_15 rfl ?_
    refine y_iret dL_steps_16 ?_
    exact ⟨_, rfl, Or.inr (⟨rfl, hc, rfl⟩)⟩

set_option maxHeartbeats 600000 in
set_option maxRecDepth 100000 in
theorem c_L_outputs (g : GG) (M : Mem) (r t : Int) (C : CR M) (hr : rg r) (ht : rg t) (hD : DKs M) (hst : g.1.stackTraces = false) : Cw g yL_outputs cL_outputs 5 [(0, 10, 13, 29)] 3 [rv g 0, iv r, iv t, rv g 497] M (pI (fun kw Mw => (kw = 0 ∧ ∃ z Mc, (Mc = M ∧ ((0 ≤ r ∧ r < M 0 12 ∧ 0 ≤ t ∧ t < M (20 * M (8 * r + 148) 5 + 48) 3) ∧ z = M 15 (M (8 * r + 155) t))) ∧ Mw = up Mc 497 0 (wr z)) ∨ (kw = 1 ∧ ((r < 0 ∨ M 0 12 ≤ r ∨ (0 ≤ r ∧ r < M 0 12 ∧ (t < 0 ∨ M (20 * M (8 * r + 148) 5 + 48) 3 ≤ t)))) ∧ Mw = M))) := by
  refine cw_of (by decide +kernel) rfl (Nat.le_of_ble_eq_true rfl) ?_
  show Okw g cL_outputs 5 [(0, 10, 13, 29)] (rmw 3) (FQw g (pI (fun kw Mw => (kw = 0 ∧ ∃ z Mc, (Mc = M ∧ ((0 ≤ r ∧ r < M 0 12 ∧ 0 ≤ t ∧ t < M (20 * M (8 * r + 148) 5 + 48) 3) ∧ z = M 15 (M (8 * r + 155) t))) ∧ Mw = up Mc 497 0 (wr z)) ∨ (kw = 1 ∧ ((r < 0 ∨ M 0 12 ≤ r ∨ (0 ≤ r ∧ r < M 0 12 ∧ (t < 0 ∨ M (20 * M (8 * r + 148) 5 + 48) 3 ≤ t)))) ∧ Mw = M)))) 0 0 0 [(0, rv g 0), (1, iv r), (2, iv t), (3, rv g 497)] [] M
  refine y_aload_n 3 dL_outputs_0 rfl rfl ?_
  refine y_iconst (0) dL_outputs_1 rfl ?_
  refine y_aload_n 0 dL_outputs_2 rfl rfl ?_
  refine y_iload_n 1 dL_outputs_3 rfl rfl ?_
  refine y_iload_n 2 dL_outputs_4 rfl rfl ?_
  refine y_call (as := [iv r, iv t]) (rest := [iv 0, rv g 497]) dL_outputs_5 vlL_59 k_0 (c_X8_outputs g M r t C hr ht hD hst) rfl rfl (Nat.le_of_ble_eq_true rfl) ⟨Nat.le_of_ble_eq_true rfl, Nat.le_of_ble_eq_true rfl, Nat.le_of_ble_eq_true rfl, Nat.le_of_ble_eq_true rfl⟩ (fun v M1 hv => ?_) (fun E M1 hE => ?_)
  · obtain ⟨z, rfl, hq⟩ := hv
    refine y_i2l dL_outputs_8 ?_
    refine y_lastore dL_outputs_9 ?_
    refine y_goto (tgt := 17) dL_outputs_10 (by decide) ?_
    refine y_iconst (0) dL_outputs_17 rfl ?_
    refine y_iret dL_outputs_18 ?_
    exact ⟨_, rfl, Or.inl ⟨rfl, z, M1, hq, rfl⟩⟩
  · rcases hE with ⟨rfl, hc, rfl⟩
    refine y_catch [] [] rfl ⟨by omega, by omega⟩ (by decide) (inr12 _ (List.mem_of_getElem? (i := 9) rfl)) (List.mem_of_getElem? (i := 5) rfl) (fun _ h => nomatch h) (fun q => ?_)
    refine y_astore (lv' := [(4, .ref q), (0, rv g 0), (1, iv r), (2, iv t), (3, rv g 497)]) dL_outputs_13 (Nat.le_of_ble_eq_true rfl) rfl ?_
    refine y_iconst (1) dL_outputs_15 rfl ?_
    refine y_iret dL_outputs_16 ?_
    exact ⟨_, rfl, Or.inr (⟨rfl, hc, rfl⟩)⟩

set_option maxHeartbeats 600000 in
set_option maxRecDepth 100000 in
theorem c_L_output (g : GG) (M : Mem) (r t k : Int) (C : CR M) (hr : rg r) (ht : rg t) (hk : rg k) (hD : DKs M) (hst : g.1.stackTraces = false) : Cw g yL_output cL_output 6 [(0, 12, 15, 29), (0, 12, 19, 65)] 3 [rv g 0, iv r, iv t, iv k, rv g 497] M (pI (fun kw Mw => (kw = 0 ∧ ∃ z Mc, (Mc = M ∧ ((0 ≤ r ∧ r < M 0 12 ∧ 0 ≤ t ∧ t < M (20 * M (8 * r + 148) 5 + 48) 3) ∧ (0 ≤ k ∧ k < M 15 (M (8 * r + 155) t)) ∧ z = M 14 (M (8 * r + 155) t * 6 + k))) ∧ Mw = up Mc 497 0 (wr z)) ∨ (kw = 1 ∧ ((r < 0 ∨ M 0 12 ≤ r ∨ (0 ≤ r ∧ r < M 0 12 ∧ (t < 0 ∨ M (20 * M (8 * r + 148) 5 + 48) 3 ≤ t)))) ∧ Mw = M) ∨ (kw = 2 ∧ ((0 ≤ r ∧ r < M 0 12 ∧ 0 ≤ t ∧ t < M (20 * M (8 * r + 148) 5 + 48) 3) ∧ (k < 0 ∨ M 15 (M (8 * r + 155) t) ≤ k)) ∧ Mw = M))) := by
  refine cw_of (by decide +kernel) rfl (Nat.le_of_ble_eq_true rfl) ?_
  show Okw g cL_output 6 [(0, 12, 15, 29), (0, 12, 19, 65)] (rmw 3) (FQw g (pI (fun kw Mw => (kw = 0 ∧ ∃ z Mc, (Mc = M ∧ ((0 ≤ r ∧ r < M 0 12 ∧ 0 ≤ t ∧ t < M (20 * M (8 * r + 148) 5 + 48) 3) ∧ (0 ≤ k ∧ k < M 15 (M (8 * r + 155) t)) ∧ z = M 14 (M (8 * r + 155) t * 6 + k))) ∧ Mw = up Mc 497 0 (wr z)) ∨ (kw = 1 ∧ ((r < 0 ∨ M 0 12 ≤ r ∨ (0 ≤ r ∧ r < M 0 12 ∧ (t < 0 ∨ M (20 * M (8 * r + 148) 5 + 48) 3 ≤ t)))) ∧ Mw = M) ∨ (kw = 2 ∧ ((0 ≤ r ∧ r < M 0 12 ∧ 0 ≤ t ∧ t < M (20 * M (8 * r + 148) 5 + 48) 3) ∧ (k < 0 ∨ M 15 (M (8 * r + 155) t) ≤ k)) ∧ Mw = M)))) 0 0 0 [(0, rv g 0), (1, iv r), (2, iv t), (3, iv k), (4, rv g 497)] [] M
  refine y_aload 4 dL_output_0 rfl ?_
  refine y_iconst (0) dL_output_2 rfl ?_
  refine y_aload_n 0 dL_output_3 rfl rfl ?_
  refine y_iload_n 1 dL_output_4 rfl rfl ?_
  refine y_iload_n 2 dL_output_5 rfl rfl ?_
  refine y_iload_n 3 dL_output_6 rfl rfl ?_
  refine y_call (as := [iv r, iv t, iv k]) (rest := [iv 0, rv g 497]) dL_output_7 vlL_62 k_0 (c_X8_output g M r t k C hr ht hk hD hst) rfl rfl (Nat.le_of_ble_eq_true rfl) ⟨Nat.le_of_ble_eq_true rfl, Nat.le_of_ble_eq_true rfl, Nat.le_of_ble_eq_true rfl, Nat.le_of_ble_eq_true rfl⟩ (fun v M1 hv => ?_) (fun E M1 hE => ?_)
  · obtain ⟨z, rfl, hq⟩ := hv
    refine y_i2l dL_output_10 ?_
    refine y_lastore dL_output_11 ?_
    refine y_goto (tgt := 23) dL_output_12 (by decide) ?_
    refine y_iconst (0) dL_output_23 rfl ?_
    refine y_iret dL_output_24 ?_
    exact ⟨_, rfl, Or.inl ⟨rfl, z, M1, hq, rfl⟩⟩
  · rcases hE with ⟨rfl, hc, rfl⟩ | ⟨rfl, hc, rfl⟩
    · refine y_catch [] [(0, 12, 19, 65)] rfl ⟨by omega, by omega⟩ (by decide) (inr12 _ (List.mem_of_getElem? (i := 9) rfl)) (List.mem_of_getElem? (i := 5) rfl) (fun _ h => nomatch h) (fun q => ?_)
      refine y_astore (lv' := [(5, .ref q), (0, rv g 0), (1, iv r), (2, iv t), (3, iv k), (4, rv g 497)]) dL_output_15 (Nat.le_of_ble_eq_true rfl) rfl ?_
      refine y_iconst (1) dL_output_17 rfl ?_
      refine y_iret dL_output_18 ?_
      exact ⟨_, rfl, Or.inr (Or.inl ⟨rfl, hc, rfl⟩)⟩
    · refine y_catch [(0, 12, 15, 29)] [] rfl ⟨by omega, by omega⟩ (by decide) (inr28 _ (List.mem_of_getElem? (i := 17) rfl)) (List.mem_of_getElem? (i := 6) rfl) (List.forall_mem_cons.mpr ⟨⟨by decide, "java/lang/IndexOutOfBoundsException", inr12 _ (List.mem_of_getElem? (i := 9) rfl), List.mem_of_getElem? (i := 3) rfl⟩, fun _ h => nomatch h⟩) (fun q => ?_)
      refine y_astore (lv' := [(5, .ref q), (0, rv g 0), (1, iv r), (2, iv t), (3, iv k), (4, rv g 497)]) dL_output_19 (Nat.le_of_ble_eq_true rfl) rfl ?_
      refine y_iconst (2) dL_output_21 rfl ?_
      refine y_iret dL_output_22 ?_
      exact ⟨_, rfl, Or.inr (Or.inr (⟨rfl, hc, rfl⟩))⟩

set_option maxHeartbeats 600000 in
set_option maxRecDepth 100000 in
theorem c_L_sharing (g : GG) (M : Mem) (r t : Int) (C : CR M) (hr : rg r) (ht : rg t) (hD : DKs M) (hst : g.1.stackTraces = false) : Cw g yL_sharing cL_sharing 5 [(0, 10, 13, 29)] 3 [rv g 0, iv r, iv t, rv g 497] M (pI (fun kw Mw => (kw = 0 ∧ ∃ z Mc, (Mc = M ∧ ((0 ≤ r ∧ r < M 0 12 ∧ 0 ≤ t ∧ t < M (20 * M (8 * r + 148) 5 + 48) 3) ∧ z = M 16 (M (8 * r + 155) t))) ∧ Mw = up Mc 497 0 (wr z)) ∨ (kw = 1 ∧ ((r < 0 ∨ M 0 12 ≤ r ∨ (0 ≤ r ∧ r < M 0 12 ∧ (t < 0 ∨ M (20 * M (8 * r + 148) 5 + 48) 3 ≤ t)))) ∧ Mw = M))) := by
  refine cw_of (by decide +kernel) rfl (Nat.le_of_ble_eq_true rfl) ?_
  show Okw g cL_sharing 5 [(0, 10, 13, 29)] (rmw 3) (FQw g (pI (fun kw Mw => (kw = 0 ∧ ∃ z Mc, (Mc = M ∧ ((0 ≤ r ∧ r < M 0 12 ∧ 0 ≤ t ∧ t < M (20 * M (8 * r + 148) 5 + 48) 3) ∧ z = M 16 (M (8 * r + 155) t))) ∧ Mw = up Mc 497 0 (wr z)) ∨ (kw = 1 ∧ ((r < 0 ∨ M 0 12 ≤ r ∨ (0 ≤ r ∧ r < M 0 12 ∧ (t < 0 ∨ M (20 * M (8 * r + 148) 5 + 48) 3 ≤ t)))) ∧ Mw = M)))) 0 0 0 [(0, rv g 0), (1, iv r), (2, iv t), (3, rv g 497)] [] M
  refine y_aload_n 3 dL_sharing_0 rfl rfl ?_
  refine y_iconst (0) dL_sharing_1 rfl ?_
  refine y_aload_n 0 dL_sharing_2 rfl rfl ?_
  refine y_iload_n 1 dL_sharing_3 rfl rfl ?_
  refine y_iload_n 2 dL_sharing_4 rfl rfl ?_
  refine y_call (as := [iv r, iv t]) (rest := [iv 0, rv g 497]) dL_sharing_5 vlL_67 k_0 (c_X8_sharing g M r t C hr ht hD hst) rfl rfl (Nat.le_of_ble_eq_true rfl) ⟨Nat.le_of_ble_eq_true rfl, Nat.le_of_ble_eq_true rfl, Nat.le_of_ble_eq_true rfl, Nat.le_of_ble_eq_true rfl⟩ (fun v M1 hv => ?_) (fun E M1 hE => ?_)
  · obtain ⟨z, rfl, hq⟩ := hv
    refine y_i2l dL_sharing_8 ?_
    refine y_lastore dL_sharing_9 ?_
    refine y_goto (tgt := 17) dL_sharing_10 (by decide) ?_
    refine y_iconst (0) dL_sharing_17 rfl ?_
    refine y_iret dL_sharing_18 ?_
    exact ⟨_, rfl, Or.inl ⟨rfl, z, M1, hq, rfl⟩⟩
  · rcases hE with ⟨rfl, hc, rfl⟩
    refine y_catch [] [] rfl ⟨by omega, by omega⟩ (by decide) (inr12 _ (List.mem_of_getElem? (i := 9) rfl)) (List.mem_of_getElem? (i := 5) rfl) (fun _ h => nomatch h) (fun q => ?_)
    refine y_astore (lv' := [(4, .ref q), (0, rv g 0), (1, iv r), (2, iv t), (3, rv g 497)]) dL_sharing_13 (Nat.le_of_ble_eq_true rfl) rfl ?_
    refine y_iconst (1) dL_sharing_15 rfl ?_
    refine y_iret dL_sharing_16 ?_
    exact ⟨_, rfl, Or.inr (⟨rfl, hc, rfl⟩)⟩

set_option maxHeartbeats 600000 in
set_option maxRecDepth 100000 in
theorem c_L_stock (g : GG) (M : Mem) (c m : Int) (b : Int → BSt) (hc : rg c) (hm : rg m) (hb : ∀ c, 0 ≤ c → c < 4 → RAb M c (b c) ∧ QS 900000 (b c)) (hst : g.1.stackTraces = false) : Cw g yL_stock cL_stock 5 [(0, 10, 13, 13)] 2 [rv g 0, iv c, iv m, rv g 497] M (pI (fun kw Mw => (kw = 0 ∧ ∃ z Mc, (((0 ≤ c ∧ c ≤ 3) ∧ 1 ≤ m ∧ m ≤ 20) ∧ z = Mc 25 c ∧ FRb (up M 25 c (M 25 c + m)) c Mc ∧ RAb Mc c (SVo ((b c).1, (b c).2.1, (b c).2.2.1 + m, (b c).2.2.2.1, (b c).2.2.2.2))) ∧ Mw = up Mc 497 0 (wr z)) ∨ (kw = 1 ∧ (¬ ((0 ≤ c ∧ c ≤ 3) ∧ 1 ≤ m ∧ m ≤ 20)) ∧ Mw = M))) := by
  refine cw_of (by decide +kernel) rfl (Nat.le_of_ble_eq_true rfl) ?_
  show Okw g cL_stock 5 [(0, 10, 13, 13)] (rmw 2) (FQw g (pI (fun kw Mw => (kw = 0 ∧ ∃ z Mc, (((0 ≤ c ∧ c ≤ 3) ∧ 1 ≤ m ∧ m ≤ 20) ∧ z = Mc 25 c ∧ FRb (up M 25 c (M 25 c + m)) c Mc ∧ RAb Mc c (SVo ((b c).1, (b c).2.1, (b c).2.2.1 + m, (b c).2.2.2.1, (b c).2.2.2.2))) ∧ Mw = up Mc 497 0 (wr z)) ∨ (kw = 1 ∧ (¬ ((0 ≤ c ∧ c ≤ 3) ∧ 1 ≤ m ∧ m ≤ 20)) ∧ Mw = M)))) 0 0 0 [(0, rv g 0), (1, iv c), (2, iv m), (3, rv g 497)] [] M
  refine y_aload_n 3 dL_stock_0 rfl rfl ?_
  refine y_iconst (0) dL_stock_1 rfl ?_
  refine y_aload_n 0 dL_stock_2 rfl rfl ?_
  refine y_iload_n 1 dL_stock_3 rfl rfl ?_
  refine y_iload_n 2 dL_stock_4 rfl rfl ?_
  refine y_call (as := [iv c, iv m]) (rest := [iv 0, rv g 497]) dL_stock_5 vlL_70 k_0 (c_X8_stock g M c m b hc hm hb hst) rfl rfl (Nat.le_of_ble_eq_true rfl) ⟨Nat.le_of_ble_eq_true rfl, Nat.le_of_ble_eq_true rfl, Nat.le_of_ble_eq_true rfl, Nat.le_of_ble_eq_true rfl⟩ (fun v M1 hv => ?_) (fun E M1 hE => ?_)
  · obtain ⟨z, rfl, hq⟩ := hv
    refine y_i2l dL_stock_8 ?_
    refine y_lastore dL_stock_9 ?_
    refine y_goto (tgt := 17) dL_stock_10 (by decide) ?_
    refine y_iconst (0) dL_stock_17 rfl ?_
    refine y_iret dL_stock_18 ?_
    exact ⟨_, rfl, Or.inl ⟨rfl, z, M1, hq, rfl⟩⟩
  · rcases hE with ⟨rfl, hc, rfl⟩
    refine y_catch [] [] rfl ⟨by omega, by omega⟩ (by decide) (inr8 _ (List.mem_of_getElem? (i := 0) rfl)) (List.mem_of_getElem? (i := 3) rfl) (fun _ h => nomatch h) (fun q => ?_)
    refine y_astore (lv' := [(4, .ref q), (0, rv g 0), (1, iv c), (2, iv m), (3, rv g 497)]) dL_stock_13 (Nat.le_of_ble_eq_true rfl) rfl ?_
    refine y_iconst (1) dL_stock_15 rfl ?_
    refine y_iret dL_stock_16 ?_
    exact ⟨_, rfl, Or.inr (⟨rfl, hc, rfl⟩)⟩

set_option maxHeartbeats 600000 in
set_option maxRecDepth 100000 in
theorem c_L_inStock (g : GG) (M : Mem) (c : Int) (hc : rg c) (hst : g.1.stackTraces = false) : Cw g yL_inStock cL_inStock 4 [(0, 9, 12, 13)] 2 [rv g 0, iv c, rv g 497] M (pI (fun kw Mw => (kw = 0 ∧ ∃ z Mc, (Mc = M ∧ (0 ≤ c ∧ c ≤ 3 ∧ z = M 25 c)) ∧ Mw = up Mc 497 0 (wr z)) ∨ (kw = 1 ∧ (c < 0 ∨ 3 < c) ∧ Mw = M))) := by
  refine cw_of (by decide +kernel) rfl (Nat.le_of_ble_eq_true rfl) ?_
  show Okw g cL_inStock 4 [(0, 9, 12, 13)] (rmw 2) (FQw g (pI (fun kw Mw => (kw = 0 ∧ ∃ z Mc, (Mc = M ∧ (0 ≤ c ∧ c ≤ 3 ∧ z = M 25 c)) ∧ Mw = up Mc 497 0 (wr z)) ∨ (kw = 1 ∧ (c < 0 ∨ 3 < c) ∧ Mw = M)))) 0 0 0 [(0, rv g 0), (1, iv c), (2, rv g 497)] [] M
  refine y_aload_n 2 dL_inStock_0 rfl rfl ?_
  refine y_iconst (0) dL_inStock_1 rfl ?_
  refine y_aload_n 0 dL_inStock_2 rfl rfl ?_
  refine y_iload_n 1 dL_inStock_3 rfl rfl ?_
  refine y_call (as := [iv c]) (rest := [iv 0, rv g 497]) dL_inStock_4 vlL_73 k_0 (c_X8_inStock g M c hc hst) rfl rfl (Nat.le_of_ble_eq_true rfl) ⟨Nat.le_of_ble_eq_true rfl, Nat.le_of_ble_eq_true rfl, Nat.le_of_ble_eq_true rfl, Nat.le_of_ble_eq_true rfl⟩ (fun v M1 hv => ?_) (fun E M1 hE => ?_)
  · obtain ⟨z, rfl, hq⟩ := hv
    refine y_i2l dL_inStock_7 ?_
    refine y_lastore dL_inStock_8 ?_
    refine y_goto (tgt := 15) dL_inStock_9 (by decide) ?_
    refine y_iconst (0) dL_inStock_15 rfl ?_
    refine y_iret dL_inStock_16 ?_
    exact ⟨_, rfl, Or.inl ⟨rfl, z, M1, hq, rfl⟩⟩
  · rcases hE with ⟨rfl, hc, rfl⟩
    refine y_catch [] [] rfl ⟨by omega, by omega⟩ (by decide) (inr8 _ (List.mem_of_getElem? (i := 0) rfl)) (List.mem_of_getElem? (i := 3) rfl) (fun _ h => nomatch h) (fun q => ?_)
    refine y_astore_n (lv' := [(3, .ref q), (0, rv g 0), (1, iv c), (2, rv g 497)]) dL_inStock_12 rfl (Nat.le_of_ble_eq_true rfl) rfl ?_
    refine y_iconst (1) dL_inStock_13 rfl ?_
    refine y_iret dL_inStock_14 ?_
    exact ⟨_, rfl, Or.inr (⟨rfl, hc, rfl⟩)⟩

set_option maxHeartbeats 600000 in
set_option maxRecDepth 100000 in
theorem c_L_out (g : GG) (M : Mem) (c : Int) (hc : rg c) (hst : g.1.stackTraces = false) : Cw g yL_out cL_out 4 [(0, 9, 12, 13)] 2 [rv g 0, iv c, rv g 497] M (pI (fun kw Mw => (kw = 0 ∧ ∃ z Mc, (Mc = M ∧ (0 ≤ c ∧ c ≤ 3 ∧ z = M 26 c)) ∧ Mw = up Mc 497 0 (wr z)) ∨ (kw = 1 ∧ (c < 0 ∨ 3 < c) ∧ Mw = M))) := by
  refine cw_of (by decide +kernel) rfl (Nat.le_of_ble_eq_true rfl) ?_
  show Okw g cL_out 4 [(0, 9, 12, 13)] (rmw 2) (FQw g (pI (fun kw Mw => (kw = 0 ∧ ∃ z Mc, (Mc = M ∧ (0 ≤ c ∧ c ≤ 3 ∧ z = M 26 c)) ∧ Mw = up Mc 497 0 (wr z)) ∨ (kw = 1 ∧ (c < 0 ∨ 3 < c) ∧ Mw = M)))) 0 0 0 [(0, rv g 0), (1, iv c), (2, rv g 497)] [] M
  refine y_aload_n 2 dL_out_0 rfl rfl ?_
  refine y_iconst (0) dL_out_1 rfl ?_
  refine y_aload_n 0 dL_out_2 rfl rfl ?_
  refine y_iload_n 1 dL_out_3 rfl rfl ?_
  refine y_call (as := [iv c]) (rest := [iv 0, rv g 497]) dL_out_4 vlL_76 k_0 (c_X8_out g M c hc hst) rfl rfl (Nat.le_of_ble_eq_true rfl) ⟨Nat.le_of_ble_eq_true rfl, Nat.le_of_ble_eq_true rfl, Nat.le_of_ble_eq_true rfl, Nat.le_of_ble_eq_true rfl⟩ (fun v M1 hv => ?_) (fun E M1 hE => ?_)
  · obtain ⟨z, rfl, hq⟩ := hv
    refine y_i2l dL_out_7 ?_
    refine y_lastore dL_out_8 ?_
    refine y_goto (tgt := 15) dL_out_9 (by decide) ?_
    refine y_iconst (0) dL_out_15 rfl ?_
    refine y_iret dL_out_16 ?_
    exact ⟨_, rfl, Or.inl ⟨rfl, z, M1, hq, rfl⟩⟩
  · rcases hE with ⟨rfl, hc, rfl⟩
    refine y_catch [] [] rfl ⟨by omega, by omega⟩ (by decide) (inr8 _ (List.mem_of_getElem? (i := 0) rfl)) (List.mem_of_getElem? (i := 3) rfl) (fun _ h => nomatch h) (fun q => ?_)
    refine y_astore_n (lv' := [(3, .ref q), (0, rv g 0), (1, iv c), (2, rv g 497)]) dL_out_12 rfl (Nat.le_of_ble_eq_true rfl) rfl ?_
    refine y_iconst (1) dL_out_13 rfl ?_
    refine y_iret dL_out_14 ?_
    exact ⟨_, rfl, Or.inr (⟨rfl, hc, rfl⟩)⟩

set_option maxHeartbeats 600000 in
set_option maxRecDepth 100000 in
theorem c_L_balloon (g : GG) (M : Mem) (t p : Int) (C : CR M) (ht : rg t) (hp : rg p) (hS : ∀ x, 0 ≤ x → x < 40 → 0 ≤ M 18 x ∧ M 18 x < 65536) (hst : g.1.stackTraces = false) : Cw g yL_balloon cL_balloon 5 [(0, 10, 13, 29)] 2 [rv g 0, iv t, iv p, rv g 497] M (pI (fun kw Mw => (kw = 0 ∧ ∃ z Mc, (Mc = M ∧ ((0 ≤ t ∧ t < M 0 11 ∧ 0 ≤ p ∧ p < M 0 10) ∧ z = M 18 (5 * t + p))) ∧ Mw = up Mc 497 0 (wr z)) ∨ (kw = 1 ∧ (t < 0 ∨ M 0 11 ≤ t ∨ p < 0 ∨ M 0 10 ≤ p) ∧ Mw = M))) := by
  refine cw_of (by decide +kernel) rfl (Nat.le_of_ble_eq_true rfl) ?_
  show Okw g cL_balloon 5 [(0, 10, 13, 29)] (rmw 2) (FQw g (pI (fun kw Mw => (kw = 0 ∧ ∃ z Mc, (Mc = M ∧ ((0 ≤ t ∧ t < M 0 11 ∧ 0 ≤ p ∧ p < M 0 10) ∧ z = M 18 (5 * t + p))) ∧ Mw = up Mc 497 0 (wr z)) ∨ (kw = 1 ∧ (t < 0 ∨ M 0 11 ≤ t ∨ p < 0 ∨ M 0 10 ≤ p) ∧ Mw = M)))) 0 0 0 [(0, rv g 0), (1, iv t), (2, iv p), (3, rv g 497)] [] M
  refine y_aload_n 3 dL_balloon_0 rfl rfl ?_
  refine y_iconst (0) dL_balloon_1 rfl ?_
  refine y_aload_n 0 dL_balloon_2 rfl rfl ?_
  refine y_iload_n 1 dL_balloon_3 rfl rfl ?_
  refine y_iload_n 2 dL_balloon_4 rfl rfl ?_
  refine y_call (as := [iv t, iv p]) (rest := [iv 0, rv g 497]) dL_balloon_5 vlL_79 k_0 (c_X8_balloon g M t p C ht hp hS hst) rfl rfl (Nat.le_of_ble_eq_true rfl) ⟨Nat.le_of_ble_eq_true rfl, Nat.le_of_ble_eq_true rfl, Nat.le_of_ble_eq_true rfl, Nat.le_of_ble_eq_true rfl⟩ (fun v M1 hv => ?_) (fun E M1 hE => ?_)
  · obtain ⟨z, rfl, hq⟩ := hv
    refine y_i2l dL_balloon_8 ?_
    refine y_lastore dL_balloon_9 ?_
    refine y_goto (tgt := 17) dL_balloon_10 (by decide) ?_
    refine y_iconst (0) dL_balloon_17 rfl ?_
    refine y_iret dL_balloon_18 ?_
    exact ⟨_, rfl, Or.inl ⟨rfl, z, M1, hq, rfl⟩⟩
  · rcases hE with ⟨rfl, hc, rfl⟩
    refine y_catch [] [] rfl ⟨by omega, by omega⟩ (by decide) (inr12 _ (List.mem_of_getElem? (i := 9) rfl)) (List.mem_of_getElem? (i := 5) rfl) (fun _ h => nomatch h) (fun q => ?_)
    refine y_astore (lv' := [(4, .ref q), (0, rv g 0), (1, iv t), (2, iv p), (3, rv g 497)]) dL_balloon_13 (Nat.le_of_ble_eq_true rfl) rfl ?_
    refine y_iconst (1) dL_balloon_15 rfl ?_
    refine y_iret dL_balloon_16 ?_
    exact ⟨_, rfl, Or.inr (⟨rfl, hc, rfl⟩)⟩

set_option maxHeartbeats 600000 in
set_option maxRecDepth 100000 in
theorem c_L_waiting (g : GG) (M : Mem) (c k : Int) (q : Int → List Int) (hc : rg c) (hk : rg k) (hq : ∀ c, 0 ≤ c → c < 4 → QL M c (q c) ∧ (q c).length ≤ 40 ∧ ∀ x ∈ q c, 0 ≤ x ∧ x < 40) (hst : g.1.stackTraces = false) : Cw g yL_waiting cL_waiting 5 [(0, 10, 13, 13), (0, 10, 17, 65)] 2 [rv g 0, iv c, iv k, rv g 497] M (pI (fun kw Mw => (kw = 0 ∧ ∃ z Mc, (Mc = M ∧ ((0 ≤ c ∧ c ≤ 3) ∧ (0 ≤ k ∧ k < (q c).length) ∧ ∃ x, (q c)[k.toNat]? = some x ∧ z = x / 5)) ∧ Mw = up Mc 497 0 (wr z)) ∨ (kw = 1 ∧ (c < 0 ∨ 3 < c) ∧ Mw = M) ∨ (kw = 2 ∧ ((0 ≤ c ∧ c ≤ 3) ∧ (k < 0 ∨ (q c).length ≤ k)) ∧ Mw = M))) := by
  refine cw_of (by decide +kernel) rfl (Nat.le_of_ble_eq_true rfl) ?_
  show Okw g cL_waiting 5 [(0, 10, 13, 13), (0, 10, 17, 65)] (rmw 2) (FQw g (pI (fun kw Mw => (kw = 0 ∧ ∃ z Mc, (Mc = M ∧ ((0 ≤ c ∧ c ≤ 3) ∧ (0 ≤ k ∧ k < (q c).length) ∧ ∃ x, (q c)[k.toNat]? = some x ∧ z = x / 5)) ∧ Mw = up Mc 497 0 (wr z)) ∨ (kw = 1 ∧ (c < 0 ∨ 3 < c) ∧ Mw = M) ∨ (kw = 2 ∧ ((0 ≤ c ∧ c ≤ 3) ∧ (k < 0 ∨ (q c).length ≤ k)) ∧ Mw = M)))) 0 0 0 [(0, rv g 0), (1, iv c), (2, iv k), (3, rv g 497)] [] M
  refine y_aload_n 3 dL_waiting_0 rfl rfl ?_
  refine y_iconst (0) dL_waiting_1 rfl ?_
  refine y_aload_n 0 dL_waiting_2 rfl rfl ?_
  refine y_iload_n 1 dL_waiting_3 rfl rfl ?_
  refine y_iload_n 2 dL_waiting_4 rfl rfl ?_
  refine y_call (as := [iv c, iv k]) (rest := [iv 0, rv g 497]) dL_waiting_5 vlL_82 k_0 (c_X8_waiting g M c k q hc hk hq hst) rfl rfl (Nat.le_of_ble_eq_true rfl) ⟨Nat.le_of_ble_eq_true rfl, Nat.le_of_ble_eq_true rfl, Nat.le_of_ble_eq_true rfl, Nat.le_of_ble_eq_true rfl⟩ (fun v M1 hv => ?_) (fun E M1 hE => ?_)
  · obtain ⟨z, rfl, hq⟩ := hv
    refine y_i2l dL_waiting_8 ?_
    refine y_lastore dL_waiting_9 ?_
    refine y_goto (tgt := 21) dL_waiting_10 (by decide) ?_
    refine y_iconst (0) dL_waiting_21 rfl ?_
    refine y_iret dL_waiting_22 ?_
    exact ⟨_, rfl, Or.inl ⟨rfl, z, M1, hq, rfl⟩⟩
  · rcases hE with ⟨rfl, hc, rfl⟩ | ⟨rfl, hc, rfl⟩
    · refine y_catch [] [(0, 10, 17, 65)] rfl ⟨by omega, by omega⟩ (by decide) (inr8 _ (List.mem_of_getElem? (i := 0) rfl)) (List.mem_of_getElem? (i := 3) rfl) (fun _ h => nomatch h) (fun q => ?_)
      refine y_astore (lv' := [(4, .ref q), (0, rv g 0), (1, iv c), (2, iv k), (3, rv g 497)]) dL_waiting_13 (Nat.le_of_ble_eq_true rfl) rfl ?_
      refine y_iconst (1) dL_waiting_15 rfl ?_
      refine y_iret dL_waiting_16 ?_
      exact ⟨_, rfl, Or.inr (Or.inl ⟨rfl, hc, rfl⟩)⟩
    · refine y_catch [(0, 10, 13, 13)] [] rfl ⟨by omega, by omega⟩ (by decide) (inr28 _ (List.mem_of_getElem? (i := 17) rfl)) (List.mem_of_getElem? (i := 6) rfl) (List.forall_mem_cons.mpr ⟨⟨by decide, "java/lang/IllegalArgumentException", inr8 _ (List.mem_of_getElem? (i := 0) rfl), List.mem_of_getElem? (i := 4) rfl⟩, fun _ h => nomatch h⟩) (fun q => ?_)
      refine y_astore (lv' := [(4, .ref q), (0, rv g 0), (1, iv c), (2, iv k), (3, rv g 497)]) dL_waiting_17 (Nat.le_of_ble_eq_true rfl) rfl ?_
      refine y_iconst (2) dL_waiting_19 rfl ?_
      refine y_iret dL_waiting_20 ?_
      exact ⟨_, rfl, Or.inr (Or.inr (⟨rfl, hc, rfl⟩))⟩

set_option maxHeartbeats 600000 in
set_option maxRecDepth 100000 in
theorem c_L_freeze (g : GG) (M : Mem) (m : Int) (C : CR M) (hm : rg m) (hst : g.1.stackTraces = false) : Cw g yL_freeze cL_freeze 4 [(0, 9, 12, 13), (0, 9, 15, 88)] 4 [rv g 0, iv m, rv g 497] M (pI (fun kw Mw => (kw = 0 ∧ ∃ z Mc, ((0 ≤ m ∧ m ≤ 999) ∧ M 0 13 = 1000 ∧ z = cnt (fun r => m ≤ M (8 * r + 148) 6) (M 0 12) ∧ ∃ M1, FZ1 M m (M 0 12) M1 ∧ (∀ a k, ¬ (27 ≤ a ∧ a ≤ 40) → Mc a k = M1 a k) ∧ BOK Mc 27 0 ∧ BOK Mc 34 1) ∧ Mw = up Mc 497 0 (wr z)) ∨ (kw = 1 ∧ (¬ (0 ≤ m ∧ m ≤ 999)) ∧ Mw = M) ∨ (kw = 2 ∧ ((0 ≤ m ∧ m ≤ 999) ∧ M 0 13 ≠ 1000) ∧ Mw = M))) := by
  refine cw_of (by decide +kernel) rfl (Nat.le_of_ble_eq_true rfl) ?_
  show Okw g cL_freeze 4 [(0, 9, 12, 13), (0, 9, 15, 88)] (rmw 4) (FQw g (pI (fun kw Mw => (kw = 0 ∧ ∃ z Mc, ((0 ≤ m ∧ m ≤ 999) ∧ M 0 13 = 1000 ∧ z = cnt (fun r => m ≤ M (8 * r + 148) 6) (M 0 12) ∧ ∃ M1, FZ1 M m (M 0 12) M1 ∧ (∀ a k, ¬ (27 ≤ a ∧ a ≤ 40) → Mc a k = M1 a k) ∧ BOK Mc 27 0 ∧ BOK Mc 34 1) ∧ Mw = up Mc 497 0 (wr z)) ∨ (kw = 1 ∧ (¬ (0 ≤ m ∧ m ≤ 999)) ∧ Mw = M) ∨ (kw = 2 ∧ ((0 ≤ m ∧ m ≤ 999) ∧ M 0 13 ≠ 1000) ∧ Mw = M)))) 0 0 0 [(0, rv g 0), (1, iv m), (2, rv g 497)] [] M
  refine y_aload_n 2 dL_freeze_0 rfl rfl ?_
  refine y_iconst (0) dL_freeze_1 rfl ?_
  refine y_aload_n 0 dL_freeze_2 rfl rfl ?_
  refine y_iload_n 1 dL_freeze_3 rfl rfl ?_
  refine y_call (as := [iv m]) (rest := [iv 0, rv g 497]) dL_freeze_4 vlL_85 k_0 (c_X8_freeze g M m C hm hst) rfl rfl (Nat.le_of_ble_eq_true rfl) ⟨Nat.le_of_ble_eq_true rfl, Nat.le_of_ble_eq_true rfl, Nat.le_of_ble_eq_true rfl, Nat.le_of_ble_eq_true rfl⟩ (fun v M1 hv => ?_) (fun E M1 hE => ?_)
  · obtain ⟨z, rfl, hq⟩ := hv
    refine y_i2l dL_freeze_7 ?_
    refine y_lastore dL_freeze_8 ?_
    refine y_goto (tgt := 18) dL_freeze_9 (by decide) ?_
    refine y_iconst (0) dL_freeze_18 rfl ?_
    refine y_iret dL_freeze_19 ?_
    exact ⟨_, rfl, Or.inl ⟨rfl, z, M1, hq, rfl⟩⟩
  · rcases hE with ⟨rfl, hc, rfl⟩ | ⟨rfl, hc, rfl⟩
    · refine y_catch [] [(0, 9, 15, 88)] rfl ⟨by omega, by omega⟩ (by decide) (inr8 _ (List.mem_of_getElem? (i := 0) rfl)) (List.mem_of_getElem? (i := 3) rfl) (fun _ h => nomatch h) (fun q => ?_)
      refine y_astore_n (lv' := [(3, .ref q), (0, rv g 0), (1, iv m), (2, rv g 497)]) dL_freeze_12 rfl (Nat.le_of_ble_eq_true rfl) rfl ?_
      refine y_iconst (1) dL_freeze_13 rfl ?_
      refine y_iret dL_freeze_14 ?_
      exact ⟨_, rfl, Or.inr (Or.inl ⟨rfl, hc, rfl⟩)⟩
    · refine y_catch [(0, 9, 12, 13)] [] rfl ⟨by omega, by omega⟩ (by decide) (inr33 _ (List.mem_of_getElem? (i := 21) rfl)) (List.mem_of_getElem? (i := 7) rfl) (List.forall_mem_cons.mpr ⟨⟨by decide, "java/lang/IllegalArgumentException", inr8 _ (List.mem_of_getElem? (i := 0) rfl), List.mem_of_getElem? (i := 5) rfl⟩, fun _ h => nomatch h⟩) (fun q => ?_)
      refine y_astore_n (lv' := [(3, .ref q), (0, rv g 0), (1, iv m), (2, rv g 497)]) dL_freeze_15 rfl (Nat.le_of_ble_eq_true rfl) rfl ?_
      refine y_iconst (2) dL_freeze_16 rfl ?_
      refine y_iret dL_freeze_17 ?_
      exact ⟨_, rfl, Or.inr (Or.inr (⟨rfl, hc, rfl⟩))⟩

set_option maxHeartbeats 600000 in
set_option maxRecDepth 100000 in
theorem c_L_pending (g : GG) (M : Mem) (t p : Int) (C : CR M) (ht : rg t) (hp : rg p) (hst : g.1.stackTraces = false) : Cw g yL_pending cL_pending 5 [(0, 10, 13, 29)] 2 [rv g 0, iv t, iv p, rv g 497] M (pI (fun kw Mw => (kw = 0 ∧ ∃ z Mc, (Mc = M ∧ ((0 ≤ t ∧ t < M 0 11 ∧ 0 ≤ p ∧ p < M 0 10) ∧ z = cpn M t p)) ∧ Mw = up Mc 497 0 (wr z)) ∨ (kw = 1 ∧ (t < 0 ∨ M 0 11 ≤ t ∨ p < 0 ∨ M 0 10 ≤ p) ∧ Mw = M))) := by
  refine cw_of (by decide +kernel) rfl (Nat.le_of_ble_eq_true rfl) ?_
  show Okw g cL_pending 5 [(0, 10, 13, 29)] (rmw 2) (FQw g (pI (fun kw Mw => (kw = 0 ∧ ∃ z Mc, (Mc = M ∧ ((0 ≤ t ∧ t < M 0 11 ∧ 0 ≤ p ∧ p < M 0 10) ∧ z = cpn M t p)) ∧ Mw = up Mc 497 0 (wr z)) ∨ (kw = 1 ∧ (t < 0 ∨ M 0 11 ≤ t ∨ p < 0 ∨ M 0 10 ≤ p) ∧ Mw = M)))) 0 0 0 [(0, rv g 0), (1, iv t), (2, iv p), (3, rv g 497)] [] M
  refine y_aload_n 3 dL_pending_0 rfl rfl ?_
  refine y_iconst (0) dL_pending_1 rfl ?_
  refine y_aload_n 0 dL_pending_2 rfl rfl ?_
  refine y_iload_n 1 dL_pending_3 rfl rfl ?_
  refine y_iload_n 2 dL_pending_4 rfl rfl ?_
  refine y_call (as := [iv t, iv p]) (rest := [iv 0, rv g 497]) dL_pending_5 vlL_90 k_0 (c_X8_pending g M t p C ht hp hst) rfl rfl (Nat.le_of_ble_eq_true rfl) ⟨Nat.le_of_ble_eq_true rfl, Nat.le_of_ble_eq_true rfl, Nat.le_of_ble_eq_true rfl, Nat.le_of_ble_eq_true rfl⟩ (fun v M1 hv => ?_) (fun E M1 hE => ?_)
  · obtain ⟨z, rfl, hq⟩ := hv
    refine y_i2l dL_pending_8 ?_
    refine y_lastore dL_pending_9 ?_
    refine y_goto (tgt := 17) dL_pending_10 (by decide) ?_
    refine y_iconst (0) dL_pending_17 rfl ?_
    refine y_iret dL_pending_18 ?_
    exact ⟨_, rfl, Or.inl ⟨rfl, z, M1, hq, rfl⟩⟩
  · rcases hE with ⟨rfl, hc, rfl⟩
    refine y_catch [] [] rfl ⟨by omega, by omega⟩ (by decide) (inr12 _ (List.mem_of_getElem? (i := 9) rfl)) (List.mem_of_getElem? (i := 5) rfl) (fun _ h => nomatch h) (fun q => ?_)
    refine y_astore (lv' := [(4, .ref q), (0, rv g 0), (1, iv t), (2, iv p), (3, rv g 497)]) dL_pending_13 (Nat.le_of_ble_eq_true rfl) rfl ?_
    refine y_iconst (1) dL_pending_15 rfl ?_
    refine y_iret dL_pending_16 ?_
    exact ⟨_, rfl, Or.inr (⟨rfl, hc, rfl⟩)⟩

set_option maxHeartbeats 600000 in
set_option maxRecDepth 100000 in
theorem c_L_open (g : GG) (M : Mem)  (C : CR M) (hO : ∀ i, 0 ≤ i → i < M 0 11 → 0 ≤ M 40 i ∧ M 40 i < M 0 11) (hst : g.1.stackTraces = false) : Cw g yL_open cL_open 3 [(0, 8, 11, 65)] 4 [rv g 0, rv g 497] M (pI (fun kw Mw => (kw = 0 ∧ ∃ z Mc, ((∃ i, 0 ≤ i ∧ i < M 0 11 ∧ z = M 40 i ∧ cpi M z ≠ -1 ∧ ∀ j, i < j → j < M 0 11 → cpi M (M 40 j) = -1) ∧ ∃ M1, OPN M z (cpi M z) M1 ∧ (∀ a k, ¬ (27 ≤ a ∧ a ≤ 40) → Mc a k = M1 a k) ∧ BOK Mc 27 0 ∧ BOK Mc 34 1) ∧ Mw = up Mc 497 0 (wr z)) ∨ (kw = 1 ∧ (∀ i, 0 ≤ i → i < M 0 11 → cpi M (M 40 i) = -1) ∧ Mw = M))) := by
  refine cw_of (by decide +kernel) rfl (Nat.le_of_ble_eq_true rfl) ?_
  show Okw g cL_open 3 [(0, 8, 11, 65)] (rmw 4) (FQw g (pI (fun kw Mw => (kw = 0 ∧ ∃ z Mc, ((∃ i, 0 ≤ i ∧ i < M 0 11 ∧ z = M 40 i ∧ cpi M z ≠ -1 ∧ ∀ j, i < j → j < M 0 11 → cpi M (M 40 j) = -1) ∧ ∃ M1, OPN M z (cpi M z) M1 ∧ (∀ a k, ¬ (27 ≤ a ∧ a ≤ 40) → Mc a k = M1 a k) ∧ BOK Mc 27 0 ∧ BOK Mc 34 1) ∧ Mw = up Mc 497 0 (wr z)) ∨ (kw = 1 ∧ (∀ i, 0 ≤ i → i < M 0 11 → cpi M (M 40 i) = -1) ∧ Mw = M)))) 0 0 0 [(0, rv g 0), (1, rv g 497)] [] M
  refine y_aload_n 1 dL_open_0 rfl rfl ?_
  refine y_iconst (0) dL_open_1 rfl ?_
  refine y_aload_n 0 dL_open_2 rfl rfl ?_
  refine y_call (as := []) (rest := [iv 0, rv g 497]) dL_open_3 vlL_93 k_0 (c_X8_open g M C hO hst) rfl rfl (Nat.le_of_ble_eq_true rfl) ⟨Nat.le_of_ble_eq_true rfl, Nat.le_of_ble_eq_true rfl, Nat.le_of_ble_eq_true rfl, Nat.le_of_ble_eq_true rfl⟩ (fun v M1 hv => ?_) (fun E M1 hE => ?_)
  · obtain ⟨z, rfl, hq⟩ := hv
    refine y_i2l dL_open_6 ?_
    refine y_lastore dL_open_7 ?_
    refine y_goto (tgt := 14) dL_open_8 (by decide) ?_
    refine y_iconst (0) dL_open_14 rfl ?_
    refine y_iret dL_open_15 ?_
    exact ⟨_, rfl, Or.inl ⟨rfl, z, M1, hq, rfl⟩⟩
  · rcases hE with ⟨rfl, hc, rfl⟩
    refine y_catch [] [] rfl ⟨by omega, by omega⟩ (by decide) (inr28 _ (List.mem_of_getElem? (i := 17) rfl)) (List.mem_of_getElem? (i := 6) rfl) (fun _ h => nomatch h) (fun q => ?_)
    refine y_astore_n (lv' := [(2, .ref q), (0, rv g 0), (1, rv g 497)]) dL_open_11 rfl (Nat.le_of_ble_eq_true rfl) rfl ?_
    refine y_iconst (1) dL_open_12 rfl ?_
    refine y_iret dL_open_13 ?_
    exact ⟨_, rfl, Or.inr (⟨rfl, hc, rfl⟩)⟩

set_option maxHeartbeats 600000 in
set_option maxRecDepth 100000 in
theorem c_L_solved (g : GG) (M : Mem) (t b : Int) (C : CR M) (ht : rg t) (b0 : b = 0 ∨ b = 1) (hst : g.1.stackTraces = false) : Cw g yL_solved cL_solved 5 [(0, 10, 13, 29)] 2 [rv g 0, iv t, iv b, rv g 497] M (pI (fun kw Mw => (kw = 0 ∧ ∃ z Mc, (Mc = M ∧ ((0 ≤ t ∧ t < M 0 11) ∧ z = M (7 * b + 30) t)) ∧ Mw = up Mc 497 0 (wr z)) ∨ (kw = 1 ∧ (t < 0 ∨ M 0 11 ≤ t) ∧ Mw = M))) := by
  refine cw_of (by decide +kernel) rfl (Nat.le_of_ble_eq_true rfl) ?_
  show Okw g cL_solved 5 [(0, 10, 13, 29)] (rmw 2) (FQw g (pI (fun kw Mw => (kw = 0 ∧ ∃ z Mc, (Mc = M ∧ ((0 ≤ t ∧ t < M 0 11) ∧ z = M (7 * b + 30) t)) ∧ Mw = up Mc 497 0 (wr z)) ∨ (kw = 1 ∧ (t < 0 ∨ M 0 11 ≤ t) ∧ Mw = M)))) 0 0 0 [(0, rv g 0), (1, iv t), (2, iv b), (3, rv g 497)] [] M
  refine y_aload_n 3 dL_solved_0 rfl rfl ?_
  refine y_iconst (0) dL_solved_1 rfl ?_
  refine y_aload_n 0 dL_solved_2 rfl rfl ?_
  refine y_iload_n 1 dL_solved_3 rfl rfl ?_
  refine y_iload_n 2 dL_solved_4 rfl rfl ?_
  refine y_call (as := [iv t, iv b]) (rest := [iv 0, rv g 497]) dL_solved_5 vlL_96 k_0 (c_X8_solved g M t b C ht b0 hst) rfl rfl (Nat.le_of_ble_eq_true rfl) ⟨Nat.le_of_ble_eq_true rfl, Nat.le_of_ble_eq_true rfl, Nat.le_of_ble_eq_true rfl, Nat.le_of_ble_eq_true rfl⟩ (fun v M1 hv => ?_) (fun E M1 hE => ?_)
  · obtain ⟨z, rfl, hq⟩ := hv
    refine y_i2l dL_solved_8 ?_
    refine y_lastore dL_solved_9 ?_
    refine y_goto (tgt := 17) dL_solved_10 (by decide) ?_
    refine y_iconst (0) dL_solved_17 rfl ?_
    refine y_iret dL_solved_18 ?_
    exact ⟨_, rfl, Or.inl ⟨rfl, z, M1, hq, rfl⟩⟩
  · rcases hE with ⟨rfl, hc, rfl⟩
    refine y_catch [] [] rfl ⟨by omega, by omega⟩ (by decide) (inr12 _ (List.mem_of_getElem? (i := 9) rfl)) (List.mem_of_getElem? (i := 5) rfl) (fun _ h => nomatch h) (fun q => ?_)
    refine y_astore (lv' := [(4, .ref q), (0, rv g 0), (1, iv t), (2, iv b), (3, rv g 497)]) dL_solved_13 (Nat.le_of_ble_eq_true rfl) rfl ?_
    refine y_iconst (1) dL_solved_15 rfl ?_
    refine y_iret dL_solved_16 ?_
    exact ⟨_, rfl, Or.inr (⟨rfl, hc, rfl⟩)⟩

set_option maxHeartbeats 600000 in
set_option maxRecDepth 100000 in
theorem c_L_penalty (g : GG) (M : Mem) (t b : Int) (C : CR M) (ht : rg t) (b0 : b = 0 ∨ b = 1) (hst : g.1.stackTraces = false) : Cw g yL_penalty cL_penalty 5 [(0, 10, 13, 29)] 2 [rv g 0, iv t, iv b, rv g 497] M (pI (fun kw Mw => (kw = 0 ∧ ∃ z Mc, (Mc = M ∧ ((0 ≤ t ∧ t < M 0 11) ∧ z = M (7 * b + 31) t)) ∧ Mw = up Mc 497 0 (wr z)) ∨ (kw = 1 ∧ (t < 0 ∨ M 0 11 ≤ t) ∧ Mw = M))) := by
  refine cw_of (by decide +kernel) rfl (Nat.le_of_ble_eq_true rfl) ?_
  show Okw g cL_penalty 5 [(0, 10, 13, 29)] (rmw 2) (FQw g (pI (fun kw Mw => (kw = 0 ∧ ∃ z Mc, (Mc = M ∧ ((0 ≤ t ∧ t < M 0 11) ∧ z = M (7 * b + 31) t)) ∧ Mw = up Mc 497 0 (wr z)) ∨ (kw = 1 ∧ (t < 0 ∨ M 0 11 ≤ t) ∧ Mw = M)))) 0 0 0 [(0, rv g 0), (1, iv t), (2, iv b), (3, rv g 497)] [] M
  refine y_aload_n 3 dL_penalty_0 rfl rfl ?_
  refine y_iconst (0) dL_penalty_1 rfl ?_
  refine y_aload_n 0 dL_penalty_2 rfl rfl ?_
  refine y_iload_n 1 dL_penalty_3 rfl rfl ?_
  refine y_iload_n 2 dL_penalty_4 rfl rfl ?_
  refine y_call (as := [iv t, iv b]) (rest := [iv 0, rv g 497]) dL_penalty_5 vlL_99 k_0 (c_X8_penalty g M t b C ht b0 hst) rfl rfl (Nat.le_of_ble_eq_true rfl) ⟨Nat.le_of_ble_eq_true rfl, Nat.le_of_ble_eq_true rfl, Nat.le_of_ble_eq_true rfl, Nat.le_of_ble_eq_true rfl⟩ (fun v M1 hv => ?_) (fun E M1 hE => ?_)
  · obtain ⟨z, rfl, hq⟩ := hv
    refine y_i2l dL_penalty_8 ?_
    refine y_lastore dL_penalty_9 ?_
    refine y_goto (tgt := 17) dL_penalty_10 (by decide) ?_
    refine y_iconst (0) dL_penalty_17 rfl ?_
    refine y_iret dL_penalty_18 ?_
    exact ⟨_, rfl, Or.inl ⟨rfl, z, M1, hq, rfl⟩⟩
  · rcases hE with ⟨rfl, hc, rfl⟩
    refine y_catch [] [] rfl ⟨by omega, by omega⟩ (by decide) (inr12 _ (List.mem_of_getElem? (i := 9) rfl)) (List.mem_of_getElem? (i := 5) rfl) (fun _ h => nomatch h) (fun q => ?_)
    refine y_astore (lv' := [(4, .ref q), (0, rv g 0), (1, iv t), (2, iv b), (3, rv g 497)]) dL_penalty_13 (Nat.le_of_ble_eq_true rfl) rfl ?_
    refine y_iconst (1) dL_penalty_15 rfl ?_
    refine y_iret dL_penalty_16 ?_
    exact ⟨_, rfl, Or.inr (⟨rfl, hc, rfl⟩)⟩

set_option maxHeartbeats 600000 in
set_option maxRecDepth 100000 in
theorem c_L_rank (g : GG) (M : Mem) (t b : Int) (C : CR M) (ht : rg t) (b0 : b = 0 ∨ b = 1) (hB : BOK M (7 * b + 27) b) (hst : g.1.stackTraces = false) : Cw g yL_rank cL_rank 5 [(0, 10, 13, 29)] 2 [rv g 0, iv t, iv b, rv g 497] M (pI (fun kw Mw => (kw = 0 ∧ ∃ z Mc, (Mc = M ∧ ((0 ≤ t ∧ t < M 0 11) ∧ ∃ i, z = i + 1 ∧ 0 ≤ i ∧ i < M 0 11 ∧ M (7 * b + 33) i = t)) ∧ Mw = up Mc 497 0 (wr z)) ∨ (kw = 1 ∧ (t < 0 ∨ M 0 11 ≤ t) ∧ Mw = M))) := by
  refine cw_of (by decide +kernel) rfl (Nat.le_of_ble_eq_true rfl) ?_
  show Okw g cL_rank 5 [(0, 10, 13, 29)] (rmw 2) (FQw g (pI (fun kw Mw => (kw = 0 ∧ ∃ z Mc, (Mc = M ∧ ((0 ≤ t ∧ t < M 0 11) ∧ ∃ i, z = i + 1 ∧ 0 ≤ i ∧ i < M 0 11 ∧ M (7 * b + 33) i = t)) ∧ Mw = up Mc 497 0 (wr z)) ∨ (kw = 1 ∧ (t < 0 ∨ M 0 11 ≤ t) ∧ Mw = M)))) 0 0 0 [(0, rv g 0), (1, iv t), (2, iv b), (3, rv g 497)] [] M
  refine y_aload_n 3 dL_rank_0 rfl rfl ?_
  refine y_iconst (0) dL_rank_1 rfl ?_
  refine y_aload_n 0 dL_rank_2 rfl rfl ?_
  refine y_iload_n 1 dL_rank_3 rfl rfl ?_
  refine y_iload_n 2 dL_rank_4 rfl rfl ?_
  refine y_call (as := [iv t, iv b]) (rest := [iv 0, rv g 497]) dL_rank_5 vlL_102 k_0 (c_X8_rank g M t b C ht b0 hB hst) rfl rfl (Nat.le_of_ble_eq_true rfl) ⟨Nat.le_of_ble_eq_true rfl, Nat.le_of_ble_eq_true rfl, Nat.le_of_ble_eq_true rfl, Nat.le_of_ble_eq_true rfl⟩ (fun v M1 hv => ?_) (fun E M1 hE => ?_)
  · obtain ⟨z, rfl, hq⟩ := hv
    refine y_i2l dL_rank_8 ?_
    refine y_lastore dL_rank_9 ?_
    refine y_goto (tgt := 17) dL_rank_10 (by decide) ?_
    refine y_iconst (0) dL_rank_17 rfl ?_
    refine y_iret dL_rank_18 ?_
    exact ⟨_, rfl, Or.inl ⟨rfl, z, M1, hq, rfl⟩⟩
  · rcases hE with ⟨rfl, hc, rfl⟩
    refine y_catch [] [] rfl ⟨by omega, by omega⟩ (by decide) (inr12 _ (List.mem_of_getElem? (i := 9) rfl)) (List.mem_of_getElem? (i := 5) rfl) (fun _ h => nomatch h) (fun q => ?_)
    refine y_astore (lv' := [(4, .ref q), (0, rv g 0), (1, iv t), (2, iv b), (3, rv g 497)]) dL_rank_13 (Nat.le_of_ble_eq_true rfl) rfl ?_
    refine y_iconst (1) dL_rank_15 rfl ?_
    refine y_iret dL_rank_16 ?_
    exact ⟨_, rfl, Or.inr (⟨rfl, hc, rfl⟩)⟩

set_option maxHeartbeats 600000 in
set_option maxRecDepth 100000 in
theorem c_L_ranked (g : GG) (M : Mem) (k b : Int) (C : CR M) (hk : rg k) (b0 : b = 0 ∨ b = 1) (hst : g.1.stackTraces = false) : Cw g yL_ranked cL_ranked 5 [(0, 10, 13, 65)] 2 [rv g 0, iv k, iv b, rv g 497] M (pI (fun kw Mw => (kw = 0 ∧ ∃ z Mc, (Mc = M ∧ ((1 ≤ k ∧ k ≤ M 0 11) ∧ z = M (7 * b + 33) (k - 1))) ∧ Mw = up Mc 497 0 (wr z)) ∨ (kw = 1 ∧ (k < 1 ∨ M 0 11 < k) ∧ Mw = M))) := by
  refine cw_of (by decide +kernel) rfl (Nat.le_of_ble_eq_true rfl) ?_
  show Okw g cL_ranked 5 [(0, 10, 13, 65)] (rmw 2) (FQw g (pI (fun kw Mw => (kw = 0 ∧ ∃ z Mc, (Mc = M ∧ ((1 ≤ k ∧ k ≤ M 0 11) ∧ z = M (7 * b + 33) (k - 1))) ∧ Mw = up Mc 497 0 (wr z)) ∨ (kw = 1 ∧ (k < 1 ∨ M 0 11 < k) ∧ Mw = M)))) 0 0 0 [(0, rv g 0), (1, iv k), (2, iv b), (3, rv g 497)] [] M
  refine y_aload_n 3 dL_ranked_0 rfl rfl ?_
  refine y_iconst (0) dL_ranked_1 rfl ?_
  refine y_aload_n 0 dL_ranked_2 rfl rfl ?_
  refine y_iload_n 1 dL_ranked_3 rfl rfl ?_
  refine y_iload_n 2 dL_ranked_4 rfl rfl ?_
  refine y_call (as := [iv k, iv b]) (rest := [iv 0, rv g 497]) dL_ranked_5 vlL_105 k_0 (c_X8_ranked g M k b C hk b0 hst) rfl rfl (Nat.le_of_ble_eq_true rfl) ⟨Nat.le_of_ble_eq_true rfl, Nat.le_of_ble_eq_true rfl, Nat.le_of_ble_eq_true rfl, Nat.le_of_ble_eq_true rfl⟩ (fun v M1 hv => ?_) (fun E M1 hE => ?_)
  · obtain ⟨z, rfl, hq⟩ := hv
    refine y_i2l dL_ranked_8 ?_
    refine y_lastore dL_ranked_9 ?_
    refine y_goto (tgt := 17) dL_ranked_10 (by decide) ?_
    refine y_iconst (0) dL_ranked_17 rfl ?_
    refine y_iret dL_ranked_18 ?_
    exact ⟨_, rfl, Or.inl ⟨rfl, z, M1, hq, rfl⟩⟩
  · rcases hE with ⟨rfl, hc, rfl⟩
    refine y_catch [] [] rfl ⟨by omega, by omega⟩ (by decide) (inr28 _ (List.mem_of_getElem? (i := 17) rfl)) (List.mem_of_getElem? (i := 6) rfl) (fun _ h => nomatch h) (fun q => ?_)
    refine y_astore (lv' := [(4, .ref q), (0, rv g 0), (1, iv k), (2, iv b), (3, rv g 497)]) dL_ranked_13 (Nat.le_of_ble_eq_true rfl) rfl ?_
    refine y_iconst (1) dL_ranked_15 rfl ?_
    refine y_iret dL_ranked_16 ?_
    exact ⟨_, rfl, Or.inr (⟨rfl, hc, rfl⟩)⟩

set_option maxHeartbeats 600000 in
set_option maxRecDepth 100000 in
theorem c_L_acceptedShare (g : GG) (M : Mem)  (C : CR M) (hst : g.1.stackTraces = false) : Cw g yL_acceptedShare cL_acceptedShare 3 [(0, 8, 11, 112)] 2 [rv g 0, rv g 498] M (pI (fun kw Mw => (kw = 0 ∧ ∃ x Mc, (Mc = M ∧ (M 0 12 ≠ 0 ∧ x = FP.fdiv (FP.i2f (iZ (cnt (fun r => M (8 * r + 148) 8 = 97) (M 0 12)))) (FP.i2f (iZ (M 0 12))))) ∧ Mw = up Mc 498 0 ((FP.f2d x).toNat : Int)) ∨ (kw = 1 ∧ (M 0 12 = 0) ∧ Mw = M))) := by
  refine cw_of (by decide +kernel) rfl (Nat.le_of_ble_eq_true rfl) ?_
  show Okw g cL_acceptedShare 3 [(0, 8, 11, 112)] (rmw 2) (FQw g (pI (fun kw Mw => (kw = 0 ∧ ∃ x Mc, (Mc = M ∧ (M 0 12 ≠ 0 ∧ x = FP.fdiv (FP.i2f (iZ (cnt (fun r => M (8 * r + 148) 8 = 97) (M 0 12)))) (FP.i2f (iZ (M 0 12))))) ∧ Mw = up Mc 498 0 ((FP.f2d x).toNat : Int)) ∨ (kw = 1 ∧ (M 0 12 = 0) ∧ Mw = M)))) 0 0 0 [(0, rv g 0), (1, rv g 498)] [] M
  refine y_aload_n 1 dL_acceptedShare_0 rfl rfl ?_
  refine y_iconst (0) dL_acceptedShare_1 rfl ?_
  refine y_aload_n 0 dL_acceptedShare_2 rfl rfl ?_
  refine y_call (as := []) (rest := [iv 0, rv g 498]) dL_acceptedShare_3 vlL_108 k_0 (c_X8_acceptedShare g M C hst) rfl rfl (Nat.le_of_ble_eq_true rfl) ⟨Nat.le_of_ble_eq_true rfl, Nat.le_of_ble_eq_true rfl, Nat.le_of_ble_eq_true rfl, Nat.le_of_ble_eq_true rfl⟩ (fun v M1 hv => ?_) (fun E M1 hE => ?_)
  · obtain ⟨z, rfl, hq⟩ := hv
    refine y_f2d dL_acceptedShare_6 (f2d_ok (by rw [hq.2.2]; exact fq_ok ⟨by have := C.1; omega, by have := C.1; omega⟩ hq.2.1)) ?_
    refine y_dastore dL_acceptedShare_7 ?_
    refine y_goto (tgt := 14) dL_acceptedShare_8 (by decide) ?_
    refine y_iconst (0) dL_acceptedShare_14 rfl ?_
    refine y_iret dL_acceptedShare_15 ?_
    exact ⟨_, rfl, Or.inl ⟨rfl, z, M1, hq, rfl⟩⟩
  · rcases hE with ⟨rfl, hc, rfl⟩
    refine y_catch [] [] rfl ⟨by omega, by omega⟩ (by decide) (inr39 _ (List.mem_of_getElem? (i := 20) rfl)) (List.mem_of_getElem? (i := 8) rfl) (fun _ h => nomatch h) (fun q => ?_)
    refine y_astore_n (lv' := [(2, .ref q), (0, rv g 0), (1, rv g 498)]) dL_acceptedShare_11 rfl (Nat.le_of_ble_eq_true rfl) rfl ?_
    refine y_iconst (1) dL_acceptedShare_12 rfl ?_
    refine y_iret dL_acceptedShare_13 ?_
    exact ⟨_, rfl, Or.inr (⟨rfl, hc, rfl⟩)⟩

set_option maxHeartbeats 600000 in
set_option maxRecDepth 100000 in
theorem c_L_meanSteps (g : GG) (M : Mem)  (C : CR M) (hst : g.1.stackTraces = false) : Cw g yL_meanSteps cL_meanSteps 3 [(0, 7, 10, 112)] 3 [rv g 0, rv g 498] M (pI (fun kw Mw => (kw = 0 ∧ ∃ x Mc, (Mc = M ∧ (sm (fun r => M (20 * M (8 * r + 148) 5 + 48) 3) (M 0 12) ≠ 0 ∧ x = FP.ddiv (FP.i2d (iZ (sm (fun r => sm (fun t => M (8 * r + 154) t) (M (20 * M (8 * r + 148) 5 + 48) 3)) (M 0 12)))) (FP.i2d (iZ (sm (fun r => M (20 * M (8 * r + 148) 5 + 48) 3) (M 0 12)))))) ∧ Mw = up Mc 498 0 (x.toNat : Int)) ∨ (kw = 1 ∧ (sm (fun r => M (20 * M (8 * r + 148) 5 + 48) 3) (M 0 12) = 0) ∧ Mw = M))) := by
  refine cw_of (by decide +kernel) rfl (Nat.le_of_ble_eq_true rfl) ?_
  show Okw g cL_meanSteps 3 [(0, 7, 10, 112)] (rmw 3) (FQw g (pI (fun kw Mw => (kw = 0 ∧ ∃ x Mc, (Mc = M ∧ (sm (fun r => M (20 * M (8 * r + 148) 5 + 48) 3) (M 0 12) ≠ 0 ∧ x = FP.ddiv (FP.i2d (iZ (sm (fun r => sm (fun t => M (8 * r + 154) t) (M (20 * M (8 * r + 148) 5 + 48) 3)) (M 0 12)))) (FP.i2d (iZ (sm (fun r => M (20 * M (8 * r + 148) 5 + 48) 3) (M 0 12)))))) ∧ Mw = up Mc 498 0 (x.toNat : Int)) ∨ (kw = 1 ∧ (sm (fun r => M (20 * M (8 * r + 148) 5 + 48) 3) (M 0 12) = 0) ∧ Mw = M)))) 0 0 0 [(0, rv g 0), (1, rv g 498)] [] M
  refine y_aload_n 1 dL_meanSteps_0 rfl rfl ?_
  refine y_iconst (0) dL_meanSteps_1 rfl ?_
  refine y_aload_n 0 dL_meanSteps_2 rfl rfl ?_
  refine y_call (as := []) (rest := [iv 0, rv g 498]) dL_meanSteps_3 vlL_114 k_0 (c_X8_meanSteps g M C hst) rfl rfl (Nat.le_of_ble_eq_true rfl) ⟨Nat.le_of_ble_eq_true rfl, Nat.le_of_ble_eq_true rfl, Nat.le_of_ble_eq_true rfl, Nat.le_of_ble_eq_true rfl⟩ (fun v M1 hv => ?_) (fun E M1 hE => ?_)
  · obtain ⟨z, rfl, hq⟩ := hv
    refine y_dastore dL_meanSteps_6 ?_
    refine y_goto (tgt := 13) dL_meanSteps_7 (by decide) ?_
    refine y_iconst (0) dL_meanSteps_13 rfl ?_
    refine y_iret dL_meanSteps_14 ?_
    exact ⟨_, rfl, Or.inl ⟨rfl, z, M1, hq, rfl⟩⟩
  · rcases hE with ⟨rfl, hc, rfl⟩
    refine y_catch [] [] rfl ⟨by omega, by omega⟩ (by decide) (inr39 _ (List.mem_of_getElem? (i := 20) rfl)) (List.mem_of_getElem? (i := 8) rfl) (fun _ h => nomatch h) (fun q => ?_)
    refine y_astore_n (lv' := [(2, .ref q), (0, rv g 0), (1, rv g 498)]) dL_meanSteps_10 rfl (Nat.le_of_ble_eq_true rfl) rfl ?_
    refine y_iconst (1) dL_meanSteps_11 rfl ?_
    refine y_iret dL_meanSteps_12 ?_
    exact ⟨_, rfl, Or.inr (⟨rfl, hc, rfl⟩)⟩
