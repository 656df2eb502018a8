set_option maxHeartbeats 600000 in
set_option maxRecDepth 100000 in
theorem c_X8_boardOf (g : GG) (M : Mem) (b : Int) (b0 : b = 0 ∨ b = 1) : Ct g yX8_boardOf cX8_boardOf 2 (some (.object "Judgefold$Board")) 0 [rv g 0, iv b] M (pRP g (fun o => o = 7 * b + 27 ∧ isK 1 7 o) M) := by
  refine ct_of (by decide +kernel) (Nat.le_of_ble_eq_true rfl) ?_
  show Ok g mX8_boardOf (rmd 0) (FQ g (pRP g (fun o => o = 7 * b + 27 ∧ isK 1 7 o) M)) 0 [(0, rv g 0), (1, iv b)] [] M
  refine x_iload_n 1 dX8_boardOf_0 rfl rfl ?_
  refine x_if_eq (tgt := 11) dX8_boardOf_1 (by decide) ⟨by omega, by omega⟩ (fun c1 => ?_) (fun c1 => ?_)
  · refine x_aload_n 0 dX8_boardOf_11 rfl rfl ?_
    refine x_getr (k := 7) (d := 27) dX8_boardOf_12 fl8_59 k_0 rfl (fun k2 => ?_)
    have k2 : isK 1 7 27 := k2
    show Ok g mX8_boardOf (rmd 0) (FQ g (pRP g (fun o => o = 7 * b + 27 ∧ isK 1 7 o) M)) 15 [(0, rv g 0), (1, iv b)] [rv g 27] M
    refine x_aret dX8_boardOf_15 rfl ?_
    exact ⟨_, rfl, rfl, by omega, k_27⟩
  · refine x_aload_n 0 dX8_boardOf_4 rfl rfl ?_
    refine x_getr (k := 8) (d := 34) dX8_boardOf_5 fl8_63 k_0 rfl (fun k3 => ?_)
    have k3 : isK 1 7 34 := k3
    show Ok g mX8_boardOf (rmd 0) (FQ g (pRP g (fun o => o = 7 * b + 27 ∧ isK 1 7 o) M)) 8 [(0, rv g 0), (1, iv b)] [rv g 34] M
    refine x_goto (tgt := 15) dX8_boardOf_8 (by decide) ?_
    refine x_aret dX8_boardOf_15 rfl ?_
    exact ⟨_, rfl, rfl, by omega, k_34⟩

set_option maxHeartbeats 600000 in
set_option maxRecDepth 100000 in
theorem c_X8_recountBoards (g : GG) (M : Mem)  (C : CR M) : Ct g yX8_recountBoards cX8_recountBoards 1 none 3 [rv g 0] M (pV (fun M' => (∀ a k, ¬ (27 ≤ a ∧ a ≤ 40) → M' a k = M a k) ∧ BOK M' 27 0 ∧ BOK M' 34 1)) := by
  refine ct_of (by decide +kernel) (Nat.le_of_ble_eq_true rfl) ?_
  show Ok g mX8_recountBoards (rmd 3) (FQ g (pV (fun M' => (∀ a k, ¬ (27 ≤ a ∧ a ≤ 40) → M' a k = M a k) ∧ BOK M' 27 0 ∧ BOK M' 34 1))) 0 [(0, rv g 0)] [] M
  have c0 := C.1
  refine x_aload_n 0 dX8_recountBoards_0 rfl rfl ?_
  refine x_getr (k := 7) (d := 27) dX8_recountBoards_1 fl8_59 k_0 rfl (fun k1 => ?_)
  have k1 : isK 1 7 27 := k1
  show Ok g mX8_recountBoards (rmd 3) (FQ g (pV (fun M' => (∀ a k, ¬ (27 ≤ a ∧ a ≤ 40) → M' a k = M a k) ∧ BOK M' 27 0 ∧ BOK M' 34 1))) 4 [(0, rv g 0)] [rv g 27] M
  refine x_aload_n 0 dX8_recountBoards_4 rfl rfl ?_
  refine x_getr (k := 3) (d := 9) dX8_recountBoards_5 fl8_31 k_0 rfl (fun k2 => ?_)
  have k2 : isK 31 40 9 := k2
  show Ok g mX8_recountBoards (rmd 3) (FQ g (pV (fun M' => (∀ a k, ¬ (27 ≤ a ∧ a ≤ 40) → M' a k = M a k) ∧ BOK M' 27 0 ∧ BOK M' 34 1))) 8 [(0, rv g 0)] [rv g 9, rv g 27] M
  refine x_aload_n 0 dX8_recountBoards_8 rfl rfl ?_
  refine x_geti (k := 12) (kI := 12) dX8_recountBoards_9 fl8_76 k_0 rfl rfl (fun ⟨a3, a3'⟩ => ?_)
  refine x_aload_n 0 dX8_recountBoards_12 rfl rfl ?_
  refine x_geti (k := 11) (kI := 11) dX8_recountBoards_13 fl8_73 k_0 rfl rfl (fun ⟨a4, a4'⟩ => ?_)
  refine x_iconst (0) dX8_recountBoards_16 rfl ?_
  refine x_callVV (as := [rv g 9, iv (M 0 12), iv (M 0 11), iv 0]) (rest := []) dX8_recountBoards_17 vl8_325 k1 (c_X1_recount g M 27 (M 0 12) (M 0 11) 0 k_27 (by omega) C.ru (Or.inl rfl) C.pd) rfl rfl (Nat.le_of_ble_eq_true rfl) ⟨Nat.le_of_ble_eq_true rfl, Nat.le_of_ble_eq_true rfl⟩ (fun M7 h6 => ?_)
  have h1 := h6
  have e1 : ∀ a k, ¬ (27 ≤ a ∧ a ≤ 33) → M7 a k = M a k := fun a k h => h1.1 a k (by omega)
  have C1 : CR M7 := C.cong (fun a k h => e1 a k (by omega))
  refine x_aload_n 0 dX8_recountBoards_20 rfl rfl ?_
  refine x_getr (k := 8) (d := 34) dX8_recountBoards_21 fl8_63 k_0 rfl (fun k8 => ?_)
  have k8 : isK 1 7 34 := k8
  show Ok g mX8_recountBoards (rmd 3) (FQ g (pV (fun M' => (∀ a k, ¬ (27 ≤ a ∧ a ≤ 40) → M' a k = M a k) ∧ BOK M' 27 0 ∧ BOK M' 34 1))) 24 [(0, rv g 0)] [rv g 34] M7
  refine x_aload_n 0 dX8_recountBoards_24 rfl rfl ?_
  refine x_getr (k := 3) (d := 9) dX8_recountBoards_25 fl8_31 k_0 rfl (fun k9 => ?_)
  have k9 : isK 31 40 9 := k9
  show Ok g mX8_recountBoards (rmd 3) (FQ g (pV (fun M' => (∀ a k, ¬ (27 ≤ a ∧ a ≤ 40) → M' a k = M a k) ∧ BOK M' 27 0 ∧ BOK M' 34 1))) 28 [(0, rv g 0)] [rv g 9, rv g 34] M7
  refine x_aload_n 0 dX8_recountBoards_28 rfl rfl ?_
  refine x_geti (k := 12) (kI := 12) dX8_recountBoards_29 fl8_76 k_0 rfl rfl (fun ⟨a10, a10'⟩ => ?_)
  have e11 : M7 0 12 = M 0 12 := (e1 _ _ (by omega))
  simp only [e11] at a10 a10' ⊢
  refine x_aload_n 0 dX8_recountBoards_32 rfl rfl ?_
  refine x_geti (k := 11) (kI := 11) dX8_recountBoards_33 fl8_73 k_0 rfl rfl (fun ⟨a12, a12'⟩ => ?_)
  have e13 : M7 0 11 = M 0 11 := (e1 _ _ (by omega))
  simp only [e13] at a12 a12' ⊢
  refine x_iconst (1) dX8_recountBoards_36 rfl ?_
  refine x_callVV (as := [rv g 9, iv (M 0 12), iv (M 0 11), iv 1]) (rest := []) dX8_recountBoards_37 vl8_325 k8 (c_X1_recount g M7 34 (M 0 12) (M 0 11) 1 k_34 (by omega) (by have h9 := C1.ru; rw [e1 0 12 (by omega), e1 0 11 (by omega)] at h9; exact h9) (Or.inr rfl) (by have h9 := C1.pd; rw [e1 0 12 (by omega)] at h9; exact h9)) rfl rfl (Nat.le_of_ble_eq_true rfl) ⟨Nat.le_of_ble_eq_true rfl, Nat.le_of_ble_eq_true rfl⟩ (fun M16 h15 => ?_)
  have h2 := h15
  rw [← e1 0 12 (by omega), ← e1 0 11 (by omega)] at h2
  have b1 := h1.bok (by omega) (by omega)
  have b2 := h2.bok (by rw [e1 0 12 (by omega)]; omega) (by omega)
  refine x_vret dX8_recountBoards_40 rfl ?_
  refine ⟨rfl, fun a k h => (h2.1 a k (by omega)).trans (e1 a k (by omega)), ?_, b2⟩
  exact b1.cong (by rw [e1 0 12 (by omega)]; omega) (fun a k h => h2.1 a k (by omega)) (RSM.of (fun a k h => h2.1 a k (by omega)))

set_option maxHeartbeats 600000 in
set_option maxRecDepth 100000 in
theorem c_X8_isRankedAnew (g : GG) (M : Mem) (b : Int) (C : CR M) (b0 : b = 0 ∨ b = 1) (hB : BOK M (7 * b + 27) b) : Ct g yX8_isRankedAnew cX8_isRankedAnew 2 (some .boolean) 3 [rv g 0, iv b] M (pI (fun z M' => z = 1 ∧ ∀ a k, ¬ (41 ≤ a ∧ a ≤ 47) → M' a k = M a k)) := by
  refine ct_of (by decide +kernel) (Nat.le_of_ble_eq_true rfl) ?_
  show Ok g mX8_isRankedAnew (rmd 3) (FQ g (pI (fun z M' => z = 1 ∧ ∀ a k, ¬ (41 ≤ a ∧ a ≤ 47) → M' a k = M a k))) 0 [(0, rv g 0), (1, iv b)] [] M
  have c0 := C.1
  refine x_aload_n 0 dX8_isRankedAnew_0 rfl rfl ?_
  refine x_getr (k := 9) (d := 41) dX8_isRankedAnew_1 fl8_66 k_0 rfl (fun k1 => ?_)
  have k1 : isK 1 7 41 := k1
  show Ok g mX8_isRankedAnew (rmd 3) (FQ g (pI (fun z M' => z = 1 ∧ ∀ a k, ¬ (41 ≤ a ∧ a ≤ 47) → M' a k = M a k))) 4 [(0, rv g 0), (1, iv b)] [rv g 41] M
  refine x_aload_n 0 dX8_isRankedAnew_4 rfl rfl ?_
  refine x_getr (k := 3) (d := 9) dX8_isRankedAnew_5 fl8_31 k_0 rfl (fun k2 => ?_)
  have k2 : isK 31 40 9 := k2
  show Ok g mX8_isRankedAnew (rmd 3) (FQ g (pI (fun z M' => z = 1 ∧ ∀ a k, ¬ (41 ≤ a ∧ a ≤ 47) → M' a k = M a k))) 8 [(0, rv g 0), (1, iv b)] [rv g 9, rv g 41] M
  refine x_aload_n 0 dX8_isRankedAnew_8 rfl rfl ?_
  refine x_geti (k := 12) (kI := 12) dX8_isRankedAnew_9 fl8_76 k_0 rfl rfl (fun ⟨a3, a3'⟩ => ?_)
  refine x_aload_n 0 dX8_isRankedAnew_12 rfl rfl ?_
  refine x_geti (k := 11) (kI := 11) dX8_isRankedAnew_13 fl8_73 k_0 rfl rfl (fun ⟨a4, a4'⟩ => ?_)
  refine x_iload_n 1 dX8_isRankedAnew_16 rfl rfl ?_
  refine x_callVV (as := [rv g 9, iv (M 0 12), iv (M 0 11), iv b]) (rest := []) dX8_isRankedAnew_17 vl8_325 k1 (c_X1_recount g M 41 (M 0 12) (M 0 11) b k_41 (by omega) C.ru b0 C.pd) rfl rfl (Nat.le_of_ble_eq_true rfl) ⟨Nat.le_of_ble_eq_true rfl, Nat.le_of_ble_eq_true rfl⟩ (fun M7 h6 => ?_)
  have h1 := h6
  have b1 := h1.bok (by omega) (by omega)
  have b2 := hB.cong (by omega) (fun a k h => h1.1 a k (by omega)) (RSM.of (fun a k h => h1.1 a k (by omega)))
  have e11 := h1.1 0 11 (by omega)
  refine x_aload_n 0 dX8_isRankedAnew_20 rfl rfl ?_
  refine x_getr (k := 9) (d := 41) dX8_isRankedAnew_21 fl8_66 k_0 rfl (fun k8 => ?_)
  have k8 : isK 1 7 41 := k8
  show Ok g mX8_isRankedAnew (rmd 3) (FQ g (pI (fun z M' => z = 1 ∧ ∀ a k, ¬ (41 ≤ a ∧ a ≤ 47) → M' a k = M a k))) 24 [(0, rv g 0), (1, iv b)] [rv g 41] M7
  refine x_aload_n 0 dX8_isRankedAnew_24 rfl rfl ?_
  refine x_iload_n 1 dX8_isRankedAnew_25 rfl rfl ?_
  refine x_callVRP (as := [iv b]) (rest := [rv g 41]) dX8_isRankedAnew_26 vl8_276 k_0 (c_X8_boardOf g M7 b b0) rfl rfl (Nat.le_of_ble_eq_true rfl) ⟨Nat.le_of_ble_eq_true rfl, Nat.le_of_ble_eq_true rfl⟩ (fun z9 h10 => ?_)
  have ho := h10.1
  refine x_callVIP (as := [rv g z9]) (rest := []) dX8_isRankedAnew_29 vl8_359 k8 (c_X1_isLike g M7 41 z9 k_41 h10.2 (by rw [b1.1]; omega)) rfl rfl (Nat.le_of_ble_eq_true rfl) ⟨Nat.le_of_ble_eq_true rfl, Nat.le_of_ble_eq_true rfl⟩ (fun z12 h13 => ?_)
  have hl := h13
  rw [ho] at hl
  have hl2 := b1.like b2 (by omega)
  refine x_iret dX8_isRankedAnew_32 rfl (iZ_bool (by omega)) ?_
  exact ⟨_, rfl, by rcases hl with ⟨w, _⟩ | ⟨_, w⟩; exact w; exact absurd hl2 w, fun a k h => h1.1 a k (by omega)⟩
