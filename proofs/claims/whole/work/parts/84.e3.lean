set_option maxHeartbeats 600000 in
set_option maxRecDepth 100000 in
theorem c_X8_open (g : GG) (M : Mem)  (C : CR M) (hO : ∀ i, 0 ≤ i → i < M 0 11 → 0 ≤ M 40 i ∧ M 40 i < M 0 11) (hst : g.1.stackTraces = false) : Ctx g yX8_open cX8_open 2 (some .int) 4 [rv g 0] M (pI (fun z M' => (∃ i, 0 ≤ i ∧ i < M 0 11 ∧ z = M 40 i ∧ cpi M z ≠ -1 ∧ ∀ j, i < j → j < M 0 11 → cpi M (M 40 j) = -1) ∧ ∃ M1, OPN M z (cpi M z) M1 ∧ (∀ a k, ¬ (27 ≤ a ∧ a ≤ 40) → M' a k = M1 a k) ∧ BOK M' 27 0 ∧ BOK M' 34 1)) (fun E M' => (E = "java/util/NoSuchElementException" ∧ (∀ i, 0 ≤ i → i < M 0 11 → cpi M (M 40 i) = -1) ∧ M' = M)) := by
  refine ctx_of (by decide +kernel) (Nat.le_of_ble_eq_true rfl) ?_
  show Ok g mX8_open (rmX 4) (FX g (pI (fun z M' => (∃ i, 0 ≤ i ∧ i < M 0 11 ∧ z = M 40 i ∧ cpi M z ≠ -1 ∧ ∀ j, i < j → j < M 0 11 → cpi M (M 40 j) = -1) ∧ ∃ M1, OPN M z (cpi M z) M1 ∧ (∀ a k, ¬ (27 ≤ a ∧ a ≤ 40) → M' a k = M1 a k) ∧ BOK M' 27 0 ∧ BOK M' 34 1)) (fun E M' => (E = "java/util/NoSuchElementException" ∧ (∀ i, 0 ≤ i → i < M 0 11 → cpi M (M 40 i) = -1) ∧ M' = M))) 0 [(0, rv g 0)] [] M
  have c0 := C.1
  refine x_aload_n 0 dX8_open_0 rfl rfl ?_
  refine x_callVIP (as := []) (rest := []) dX8_open_1 vl8_266 k_0 (c_X8_lowestPendingTeam g M C hO) rfl rfl (Nat.le_of_ble_eq_true rfl) ⟨Nat.le_of_ble_eq_true rfl, Nat.le_of_ble_eq_true rfl⟩ (fun z1 h2 => ?_)
  have hl := h2
  have hlr : -1 ≤ z1 ∧ z1 < 8 := by
    rcases hl with ⟨e, _⟩ | ⟨i, i0, i1, e, _⟩
    · omega
    · have := hO i i0 i1; omega
  refine x_istore_n (lv' := [(1, iv z1), (0, rv g 0)]) dX8_open_4 rfl (Nat.le_of_ble_eq_true rfl) rfl ?_
  refine x_iload_n 0 dX8_open_5 rfl rfl ?_
  refine x_iconst (-1) dX8_open_6 rfl ?_
  refine x_icmp_ne (tgt := 18) dX8_open_7 (by decide) ⟨by omega, by omega⟩ ⟨by decide, by decide⟩ (fun c4 => ?_) (fun c4 => ?_)
  · refine x_aload_n 1 dX8_open_18 rfl rfl ?_
    refine x_iload_n 0 dX8_open_19 rfl rfl ?_
    refine x_aload_n 1 dX8_open_20 rfl rfl ?_
    refine x_iload_n 0 dX8_open_21 rfl rfl ?_
    refine x_callVIP (as := [iv z1]) (rest := [iv z1, rv g 0]) dX8_open_22 vl8_269 k_0 (c_X8_lowestPendingProblem g M z1 C ⟨by omega, by omega⟩) rfl rfl (Nat.le_of_ble_eq_true rfl) ⟨Nat.le_of_ble_eq_true rfl, Nat.le_of_ble_eq_true rfl⟩ (fun z5 h6 => ?_)
    have hp := h6
    have hpr := cpi_rng (M := M) (t := z1) (by omega)
    refine x_callVV (as := [iv z1, iv z5]) (rest := []) dX8_open_25 vl8_272 k_0 (c_X8_openRuns g M z1 z5 C ⟨by omega, by omega⟩ ⟨by omega, by omega⟩) rfl rfl (Nat.le_of_ble_eq_true rfl) ⟨Nat.le_of_ble_eq_true rfl, Nat.le_of_ble_eq_true rfl⟩ (fun M10 h9 => ?_)
    have hn : OPN M z1 z5 M10 := h9
    rw [hp] at hn
    refine x_aload_n 1 dX8_open_28 rfl rfl ?_
    refine x_callVV (as := []) (rest := []) dX8_open_29 vl8_154 k_0 (c_X8_recountBoards g M10 (hn.cr C)) rfl rfl (Nat.le_of_ble_eq_true rfl) ⟨Nat.le_of_ble_eq_true rfl, Nat.le_of_ble_eq_true rfl⟩ (fun M13 h12 => ?_)
    have hr := h12
    refine x_iload_n 0 dX8_open_32 rfl rfl ?_
    refine x_toX ?_
    refine x_iret dX8_open_33 rfl rfl ?_
    rcases hl with ⟨e, _⟩ | hl2
    · omega
    · exact ⟨_, rfl, hl2, _, hn, hr.1, hr.2.1, hr.2.2⟩
  · exact x_throw hst ex_219 dX8_open_10 dX8_open_13 dX8_open_14 dX8_open_17 (Nat.le_of_ble_eq_true rfl) (Nat.le_of_ble_eq_true rfl) (Nat.le_of_ble_eq_true rfl) (Nat.le_of_ble_eq_true rfl) (⟨rfl, (by
      rcases hl with ⟨_, e⟩ | ⟨i, i0, i1, e, _⟩
      · exact e
      · have := hO i i0 i1
        omega), rfl⟩)
