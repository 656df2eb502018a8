set_option maxHeartbeats 600000 in
set_option maxRecDepth 100000 in
theorem c_X8_spotOf (g : GG) (M : Mem) (t p : Int)  : Ct g yX8_spotOf cX8_spotOf 2 (some .int) 0 [iv t, iv p] M (pIP (fun z => z = 5 * t + p) M) := by
  refine ct_of (by decide +kernel) (Nat.le_of_ble_eq_true rfl) ?_
  show Ok g mX8_spotOf (rmd 0) (FQ g (pIP (fun z => z = 5 * t + p) M)) 0 [(0, iv t), (1, iv p)] [] M
  refine x_iload_n 0 dX8_spotOf_0 rfl rfl ?_
  refine x_iconst (5) dX8_spotOf_1 rfl ?_
  refine x_imul dX8_spotOf_2 ?_
  refine x_iload_n 1 dX8_spotOf_3 rfl rfl ?_
  refine x_iadd dX8_spotOf_4 ?_
  refine x_iret dX8_spotOf_5 rfl rfl ?_
  exact ⟨_, rfl, rfl, by omega⟩

set_option maxHeartbeats 600000 in
set_option maxRecDepth 100000 in
theorem c_X1_hasSolved (g : GG) (M : Mem) (o s : Int) (ko : isK 1 7 o) (s0 : 0 ≤ s ∧ s < 40) : Ct g yX1_hasSolved cX1_hasSolved 2 (some .boolean) 0 [rv g o, iv s] M (pIP (fun z => (z = 1 ∧ M (o + 2) s ≠ -1) ∨ (z = 0 ∧ M (o + 2) s = -1)) M) := by
  refine ct_of (by decide +kernel) (Nat.le_of_ble_eq_true rfl) ?_
  show Ok g mX1_hasSolved (rmd 0) (FQ g (pIP (fun z => (z = 1 ∧ M (o + 2) s ≠ -1) ∨ (z = 0 ∧ M (o + 2) s = -1)) M)) 0 [(0, rv g o), (1, iv s)] [] M
  refine x_aload_n 0 dX1_hasSolved_0 rfl rfl ?_
  refine x_getr (k := 1) (d := 2) dX1_hasSolved_1 fl1_15 ko rfl (fun k1 => ?_)
  refine x_iload_n 1 dX1_hasSolved_4 rfl rfl ?_
  refine x_iald dX1_hasSolved_5 k1 (by omega) (by omega) (by decide) (fun ⟨a2, a2'⟩ => ?_)
  refine x_iconst (-1) dX1_hasSolved_6 rfl ?_
  refine x_icmp_eq (tgt := 14) dX1_hasSolved_7 (by decide) ⟨by omega, by omega⟩ ⟨by decide, by decide⟩ (fun c3 => ?_) (fun c3 => ?_)
  · refine x_iconst (0) dX1_hasSolved_14 rfl ?_
    refine x_iret dX1_hasSolved_15 rfl (iZ_bool (by omega)) ?_
    exact ⟨_, rfl, rfl, by omega⟩
  · refine x_iconst (1) dX1_hasSolved_10 rfl ?_
    refine x_goto (tgt := 15) dX1_hasSolved_11 (by decide) ?_
    refine x_iret dX1_hasSolved_15 rfl (iZ_bool (by omega)) ?_
    exact ⟨_, rfl, rfl, by omega⟩

set_option maxHeartbeats 600000 in
set_option maxRecDepth 100000 in
theorem c_X1_clear (g : GG) (M : Mem) (o : Int) (ko : isK 1 7 o) : Ct g yX1_clear cX1_clear 2 none 0 [rv g o] M (pV (fun M' => (∀ a k, ¬ (o + 1 ≤ a ∧ a ≤ o + 5) → M' a k = M a k) ∧ (∀ s, 0 ≤ s → s < 40 → M' (o + 1) s = 0 ∧ M' (o + 2) s = -1) ∧ (∀ t, 0 ≤ t → t < 8 → M' (o + 3) t = 0 ∧ M' (o + 4) t = 0 ∧ M' (o + 5) t = 0))) := by
  refine ct_of (by decide +kernel) (Nat.le_of_ble_eq_true rfl) ?_
  show Ok g mX1_clear (rmd 0) (FQ g (pV (fun M' => (∀ a k, ¬ (o + 1 ≤ a ∧ a ≤ o + 5) → M' a k = M a k) ∧ (∀ s, 0 ≤ s → s < 40 → M' (o + 1) s = 0 ∧ M' (o + 2) s = -1) ∧ (∀ t, 0 ≤ t → t < 8 → M' (o + 3) t = 0 ∧ M' (o + 4) t = 0 ∧ M' (o + 5) t = 0)))) 0 [(0, rv g o)] [] M
  have h_30 : ∀ (n_30 : Nat) (M2 : Mem) (k : Int), (0 ≤ k ∧ k ≤ 8) → (∀ a q, ¬ (o + 1 ≤ a ∧ a ≤ o + 5) → M2 a q = M a q) → (∀ s, 0 ≤ s → s < 40 → M2 (o + 1) s = 0 ∧ M2 (o + 2) s = -1) → (∀ t, 0 ≤ t → t < k → M2 (o + 3) t = 0 ∧ M2 (o + 4) t = 0 ∧ M2 (o + 5) t = 0) → (8 - k).toNat < n_30 → Ok g mX1_clear (rmd 0) (FQ g (pV (fun M' => (∀ a k, ¬ (o + 1 ≤ a ∧ a ≤ o + 5) → M' a k = M a k) ∧ (∀ s, 0 ≤ s → s < 40 → M' (o + 1) s = 0 ∧ M' (o + 2) s = -1) ∧ (∀ t, 0 ≤ t → t < 8 → M' (o + 3) t = 0 ∧ M' (o + 4) t = 0 ∧ M' (o + 5) t = 0)))) 30 [(0, rv g o), (1, iv k)] [] M2 := by
    intro n_30
    induction n_30 with
    | zero => intro M2 k j0 j1 j2 j3 hn_30; exact absurd hn_30 (Nat.not_lt_zero _)
    | succ n_30 ih_30 =>
      intro M2 k j0 j1 j2 j3 hn_30
      refine x_iload_n 1 dX1_clear_30 rfl rfl ?_
      refine x_bipush (8) dX1_clear_31 rfl ?_
      refine x_icmp_ge (tgt := 63) dX1_clear_33 (by decide) ⟨by omega, by omega⟩ ⟨by decide, by decide⟩ (fun c1 => ?_) (fun c1 => ?_)
      · refine x_vret dX1_clear_63 rfl ?_
        exact ⟨rfl, j1, j2, fun t t0 t1 => j3 t t0 (by omega)⟩
      · refine x_aload_n 0 dX1_clear_36 rfl rfl ?_
        refine x_getr (k := 2) (d := 3) dX1_clear_37 fl1_18 ko rfl (fun k2 => ?_)
        refine x_iload_n 1 dX1_clear_40 rfl rfl ?_
        refine x_iconst (0) dX1_clear_41 rfl ?_
        refine x_iast dX1_clear_42 k2 (by omega) (by omega) (by decide) ⟨by decide, by decide⟩ ?_
        refine x_aload_n 0 dX1_clear_43 rfl rfl ?_
        refine x_getr (k := 3) (d := 4) dX1_clear_44 fl1_21 ko rfl (fun k3 => ?_)
        refine x_iload_n 1 dX1_clear_47 rfl rfl ?_
        refine x_iconst (0) dX1_clear_48 rfl ?_
        refine x_iast dX1_clear_49 k3 (by omega) (by omega) (by decide) ⟨by decide, by decide⟩ ?_
        refine x_aload_n 0 dX1_clear_50 rfl rfl ?_
        refine x_getr (k := 4) (d := 5) dX1_clear_51 fl1_24 ko rfl (fun k4 => ?_)
        refine x_iload_n 1 dX1_clear_54 rfl rfl ?_
        refine x_iconst (0) dX1_clear_55 rfl ?_
        refine x_iast dX1_clear_56 k4 (by omega) (by omega) (by decide) ⟨by decide, by decide⟩ ?_
        refine x_iinc (z := k) (lv' := [(1, iv (k + 1)), (0, rv g o)]) 1 dX1_clear_57 rfl (Nat.le_of_ble_eq_true rfl) rfl ?_
        refine x_goto (tgt := 30) dX1_clear_60 (by decide) ?_
        refine x_sub [1, 0] rfl ?_
        exact ih_30 _ _ (by omega) (by intro a q h; rw [up_o (by omega), up_o (by omega), up_o (by omega)]; exact j1 a q h) (by intro s s0 s1; simp (disch := omega) only [up_o]; exact j2 s s0 s1) (by refine ext_lt (fun s s0 s1 => ?_) ?_; simp (disch := omega) only [up_o, up_k]; exact j3 s s0 s1; refine ⟨?_, ?_, ?_⟩ <;> simp (disch := omega) only [up_o, up_s]) (by omega)
  have h_2 : ∀ (n_2 : Nat) (M1 : Mem) (k : Int), (0 ≤ k ∧ k ≤ 40) → (∀ a q, ¬ (o + 1 ≤ a ∧ a ≤ o + 5) → M1 a q = M a q) → (∀ s, 0 ≤ s → s < k → M1 (o + 1) s = 0 ∧ M1 (o + 2) s = -1) → (40 - k).toNat < n_2 → Ok g mX1_clear (rmd 0) (FQ g (pV (fun M' => (∀ a k, ¬ (o + 1 ≤ a ∧ a ≤ o + 5) → M' a k = M a k) ∧ (∀ s, 0 ≤ s → s < 40 → M' (o + 1) s = 0 ∧ M' (o + 2) s = -1) ∧ (∀ t, 0 ≤ t → t < 8 → M' (o + 3) t = 0 ∧ M' (o + 4) t = 0 ∧ M' (o + 5) t = 0)))) 2 [(0, rv g o), (1, iv k)] [] M1 := by
    intro n_2
    induction n_2 with
    | zero => intro M1 k j0 j1 j2 hn_2; exact absurd hn_2 (Nat.not_lt_zero _)
    | succ n_2 ih_2 =>
      intro M1 k j0 j1 j2 hn_2
      refine x_iload_n 1 dX1_clear_2 rfl rfl ?_
      refine x_bipush (40) dX1_clear_3 rfl ?_
      refine x_icmp_ge (tgt := 28) dX1_clear_5 (by decide) ⟨by omega, by omega⟩ ⟨by decide, by decide⟩ (fun c5 => ?_) (fun c5 => ?_)
      · refine x_iconst (0) dX1_clear_28 rfl ?_
        refine x_istore_n (lv' := [(1, iv 0), (0, rv g o)]) dX1_clear_29 rfl (Nat.le_of_ble_eq_true rfl) rfl ?_
        refine x_sub [1, 0] rfl ?_
        exact h_30 _ _ _ (by omega) (by exact j1) (by exact fun s s0 s1 => j2 s s0 (by omega)) (by intro s _ _; omega) (Nat.lt_succ_self _)
      · refine x_aload_n 0 dX1_clear_8 rfl rfl ?_
        refine x_getr (k := 0) (d := 1) dX1_clear_9 fl1_9 ko rfl (fun k6 => ?_)
        refine x_iload_n 1 dX1_clear_12 rfl rfl ?_
        refine x_iconst (0) dX1_clear_13 rfl ?_
        refine x_iast dX1_clear_14 k6 (by omega) (by omega) (by decide) ⟨by decide, by decide⟩ ?_
        refine x_aload_n 0 dX1_clear_15 rfl rfl ?_
        refine x_getr (k := 1) (d := 2) dX1_clear_16 fl1_15 ko rfl (fun k7 => ?_)
        refine x_iload_n 1 dX1_clear_19 rfl rfl ?_
        refine x_iconst (-1) dX1_clear_20 rfl ?_
        refine x_iast dX1_clear_21 k7 (by omega) (by omega) (by decide) ⟨by decide, by decide⟩ ?_
        refine x_iinc (z := k) (lv' := [(1, iv (k + 1)), (0, rv g o)]) 1 dX1_clear_22 rfl (Nat.le_of_ble_eq_true rfl) rfl ?_
        refine x_goto (tgt := 2) dX1_clear_25 (by decide) ?_
        refine x_sub [1, 0] rfl ?_
        exact ih_2 _ _ (by omega) (by intro a q h; rw [up_o (by omega), up_o (by omega)]; exact j1 a q h) (by refine ext_lt (fun s s0 s1 => ?_) ?_; simp (disch := omega) only [up_o, up_k]; exact j2 s s0 s1; refine ⟨?_, ?_⟩ <;> simp (disch := omega) only [up_o, up_s]) (by omega)
  refine x_iconst (0) dX1_clear_0 rfl ?_
  refine x_istore_n (lv' := [(1, iv 0), (0, rv g o)]) dX1_clear_1 rfl (Nat.le_of_ble_eq_true rfl) rfl ?_
  refine x_sub [1, 0] rfl ?_
  exact h_2 _ _ _ (by omega) (by intro a q _; rfl) (by intro s _ _; omega) (Nat.lt_succ_self _)

set_option maxHeartbeats 600000 in
set_option maxRecDepth 100000 in
theorem c_X1_count (g : GG) (M : Mem) (o r t p m v : Int) (ko : isK 1 7 o) (ho : 17 < o ∧ o ≤ 41) (r0 : 0 ≤ r ∧ r < 40) (ht : M (8 * r + 148) 4 = t) (hp : M (8 * r + 148) 5 = p) (hm : M (8 * r + 148) 6 = m) (hv : M (8 * r + 148) 8 = v) (t0 : 0 ≤ t ∧ t < 8) (p0 : 0 ≤ p ∧ p < 5) (m0 : 0 ≤ m ∧ m ≤ 999) (hb : 0 ≤ M (o + 3) t ∧ M (o + 3) t ≤ 5 ∧ 0 ≤ M (o + 4) t ∧ M (o + 4) t ≤ 10000 ∧ 0 ≤ M (o + 5) t ∧ M (o + 5) t ≤ 999 ∧ 0 ≤ M (o + 1) (5 * t + p) ∧ M (o + 1) (5 * t + p) ≤ 40) : Ct g yX1_count cX1_count 3 none 1 [rv g o, rv g (8 * r + 148)] M (pV (fun M' => CNp M o t p m (v = 97) M')) := by
  refine ct_of (by decide +kernel) (Nat.le_of_ble_eq_true rfl) ?_
  show Ok g mX1_count (rmd 1) (FQ g (pV (fun M' => CNp M o t p m (v = 97) M'))) 0 [(0, rv g o), (1, rv g (8 * r + 148))] [] M
  have kr := k_run r0.1 r0.2
  refine x_aload_n 1 dX1_count_0 rfl rfl ?_
  refine x_geti (k := 4) (kI := 4) dX1_count_1 fl1_50 kr rfl rfl (fun ⟨a1, a1'⟩ => ?_)
  have e2 : M (8 * r + 148) 4 = t := ht
  simp only [e2] at a1 a1' ⊢
  refine x_aload_n 1 dX1_count_4 rfl rfl ?_
  refine x_geti (k := 5) (kI := 5) dX1_count_5 fl1_53 kr rfl rfl (fun ⟨a3, a3'⟩ => ?_)
  have e4 : M (8 * r + 148) 5 = p := hp
  simp only [e4] at a3 a3' ⊢
  refine x_callNIP (as := [iv t, iv p]) (rest := []) dX1_count_8 nl1_56 (c_X8_spotOf g M t p) rfl rfl (Nat.le_of_ble_eq_true rfl) ⟨Nat.le_of_ble_eq_true rfl, Nat.le_of_ble_eq_true rfl⟩ (fun z5 h6 => ?_)
  have hsp := h6
  have hb2 : 0 ≤ M (o + 1) z5 ∧ M (o + 1) z5 ≤ 40 := by rw [h6]; omega
  refine x_istore_n (lv' := [(2, iv z5), (0, rv g o), (1, rv g (8 * r + 148))]) dX1_count_11 rfl (Nat.le_of_ble_eq_true rfl) rfl ?_
  refine x_aload_n 1 dX1_count_12 rfl rfl ?_
  refine x_iload_n 0 dX1_count_13 rfl rfl ?_
  refine x_callVIP (as := [iv z5]) (rest := []) dX1_count_14 vl1_60 ko (c_X1_hasSolved g M o z5 ko (by omega)) rfl rfl (Nat.le_of_ble_eq_true rfl) ⟨Nat.le_of_ble_eq_true rfl, Nat.le_of_ble_eq_true rfl⟩ (fun z8 h9 => ?_)
  refine x_if_eq (tgt := 21) dX1_count_17 (by decide) ⟨by omega, by omega⟩ (fun c11 => ?_) (fun c11 => ?_)
  · refine x_aload_n 2 dX1_count_21 rfl rfl ?_
    refine x_geti (k := 8) (kI := 8) dX1_count_22 fl1_64 kr rfl rfl (fun ⟨a12, a12'⟩ => ?_)
    have e13 : M (8 * r + 148) 8 = v := hv
    simp only [e13] at a12 a12' ⊢
    refine x_bipush (97) dX1_count_25 rfl ?_
    refine x_icmp_eq (tgt := 41) dX1_count_27 (by decide) ⟨by omega, by omega⟩ ⟨by decide, by decide⟩ (fun c14 => ?_) (fun c14 => ?_)
    · refine x_aload_n 1 dX1_count_41 rfl rfl ?_
      refine x_getr (k := 1) (d := 2) dX1_count_42 fl1_15 ko rfl (fun k15 => ?_)
      refine x_iload_n 0 dX1_count_45 rfl rfl ?_
      refine x_aload_n 2 dX1_count_46 rfl rfl ?_
      refine x_geti (k := 6) (kI := 6) dX1_count_47 fl1_68 kr rfl rfl (fun ⟨a16, a16'⟩ => ?_)
      have e17 : M (8 * r + 148) 6 = m := hm
      simp only [e17] at a16 a16' ⊢
      refine x_iast dX1_count_50 k15 (by omega) (by omega) (by decide) ⟨by omega, by omega⟩ ?_
      refine x_aload_n 1 dX1_count_51 rfl rfl ?_
      refine x_getr (k := 2) (d := 3) dX1_count_52 fl1_18 ko rfl (fun k18 => ?_)
      refine x_aload_n 2 dX1_count_55 rfl rfl ?_
      refine x_geti (k := 4) (kI := 4) dX1_count_56 fl1_50 kr rfl rfl (fun ⟨a19, a19'⟩ => ?_)
      have e20 : (up M (o + 2) z5 m) (8 * r + 148) 4 = t := (Eq.trans (b := M (8 * r + 148) 4) (by simp (disch := omega) only [up_o, up_k]) ht)
      simp only [e20] at a19 a19' ⊢
      refine x_dup2 dX1_count_59 rfl rfl ?_
      refine x_iald dX1_count_60 k18 (by omega) (by omega) (by decide) (fun ⟨a21, a21'⟩ => ?_)
      have e22 : (up M (o + 2) z5 m) (o + 3) t = M (o + 3) t := (by simp (disch := omega) only [up_s, up_o, up_k])
      simp only [e22] at a21 a21' ⊢
      refine x_iconst (1) dX1_count_61 rfl ?_
      refine x_iadd dX1_count_62 ?_
      refine x_iast dX1_count_63 k18 (by omega) (by omega) (by decide) ⟨by omega, by omega⟩ ?_
      refine x_aload_n 1 dX1_count_64 rfl rfl ?_
      refine x_getr (k := 3) (d := 4) dX1_count_65 fl1_21 ko rfl (fun k23 => ?_)
      refine x_aload_n 2 dX1_count_68 rfl rfl ?_
      refine x_geti (k := 4) (kI := 4) dX1_count_69 fl1_50 kr rfl rfl (fun ⟨a24, a24'⟩ => ?_)
      have e25 : (up (up M (o + 2) z5 m) (o + 3) t ((M (o + 3) t) + 1)) (8 * r + 148) 4 = t := (Eq.trans (b := M (8 * r + 148) 4) (by simp (disch := omega) only [up_o, up_k]) ht)
      simp only [e25] at a24 a24' ⊢
      refine x_dup2 dX1_count_72 rfl rfl ?_
      refine x_iald dX1_count_73 k23 (by omega) (by omega) (by decide) (fun ⟨a26, a26'⟩ => ?_)
      have e27 : (up (up M (o + 2) z5 m) (o + 3) t ((M (o + 3) t) + 1)) (o + 4) t = M (o + 4) t := (by simp (disch := omega) only [up_s, up_o, up_k])
      simp only [e27] at a26 a26' ⊢
      refine x_aload_n 2 dX1_count_74 rfl rfl ?_
      refine x_geti (k := 6) (kI := 6) dX1_count_75 fl1_68 kr rfl rfl (fun ⟨a28, a28'⟩ => ?_)
      have e29 : (up (up M (o + 2) z5 m) (o + 3) t ((M (o + 3) t) + 1)) (8 * r + 148) 6 = m := (Eq.trans (b := M (8 * r + 148) 6) (by simp (disch := omega) only [up_o, up_k]) hm)
      simp only [e29] at a28 a28' ⊢
      refine x_bipush (20) dX1_count_78 rfl ?_
      refine x_aload_n 1 dX1_count_80 rfl rfl ?_
      refine x_getr (k := 0) (d := 1) dX1_count_81 fl1_9 ko rfl (fun k30 => ?_)
      refine x_iload_n 0 dX1_count_84 rfl rfl ?_
      refine x_iald dX1_count_85 k30 (by omega) (by omega) (by decide) (fun ⟨a31, a31'⟩ => ?_)
      have e32 : (up (up M (o + 2) z5 m) (o + 3) t ((M (o + 3) t) + 1)) (o + 1) z5 = M (o + 1) z5 := (by simp (disch := omega) only [up_s, up_o, up_k])
      simp only [e32] at a31 a31' ⊢
      refine x_imul dX1_count_86 ?_
      refine x_iadd dX1_count_87 ?_
      refine x_iadd dX1_count_88 ?_
      refine x_iast dX1_count_89 k23 (by omega) (by omega) (by decide) ⟨by omega, by omega⟩ ?_
      refine x_aload_n 1 dX1_count_90 rfl rfl ?_
      refine x_getr (k := 4) (d := 5) dX1_count_91 fl1_24 ko rfl (fun k33 => ?_)
      refine x_aload_n 2 dX1_count_94 rfl rfl ?_
      refine x_geti (k := 4) (kI := 4) dX1_count_95 fl1_50 kr rfl rfl (fun ⟨a34, a34'⟩ => ?_)
      have e35 : (up (up (up M (o + 2) z5 m) (o + 3) t ((M (o + 3) t) + 1)) (o + 4) t ((M (o + 4) t) + (m + (20 * (M (o + 1) z5))))) (8 * r + 148) 4 = t := (Eq.trans (b := M (8 * r + 148) 4) (by simp (disch := omega) only [up_o, up_k]) ht)
      simp only [e35] at a34 a34' ⊢
      refine x_aload_n 1 dX1_count_98 rfl rfl ?_
      refine x_getr (k := 4) (d := 5) dX1_count_99 fl1_24 ko rfl (fun k36 => ?_)
      refine x_aload_n 2 dX1_count_102 rfl rfl ?_
      refine x_geti (k := 4) (kI := 4) dX1_count_103 fl1_50 kr rfl rfl (fun ⟨a37, a37'⟩ => ?_)
      have e38 : (up (up (up M (o + 2) z5 m) (o + 3) t ((M (o + 3) t) + 1)) (o + 4) t ((M (o + 4) t) + (m + (20 * (M (o + 1) z5))))) (8 * r + 148) 4 = t := (Eq.trans (b := M (8 * r + 148) 4) (by simp (disch := omega) only [up_o, up_k]) ht)
      simp only [e38] at a37 a37' ⊢
      refine x_iald dX1_count_106 k36 (by omega) (by omega) (by decide) (fun ⟨a39, a39'⟩ => ?_)
      have e40 : (up (up (up M (o + 2) z5 m) (o + 3) t ((M (o + 3) t) + 1)) (o + 4) t ((M (o + 4) t) + (m + (20 * (M (o + 1) z5))))) (o + 5) t = M (o + 5) t := (by simp (disch := omega) only [up_s, up_o, up_k])
      simp only [e40] at a39 a39' ⊢
      refine x_aload_n 2 dX1_count_107 rfl rfl ?_
      refine x_geti (k := 6) (kI := 6) dX1_count_108 fl1_68 kr rfl rfl (fun ⟨a41, a41'⟩ => ?_)
      have e42 : (up (up (up M (o + 2) z5 m) (o + 3) t ((M (o + 3) t) + 1)) (o + 4) t ((M (o + 4) t) + (m + (20 * (M (o + 1) z5))))) (8 * r + 148) 6 = m := (Eq.trans (b := M (8 * r + 148) 6) (by simp (disch := omega) only [up_o, up_k]) hm)
      simp only [e42] at a41 a41' ⊢
      refine x_max dX1_count_111 mx_1 ⟨by omega, by omega⟩ ⟨by omega, by omega⟩ (Nat.le_of_ble_eq_true rfl) (Nat.le_of_ble_eq_true rfl) ?_
      refine x_iast dX1_count_114 k33 (by omega) (by omega) (by decide) ⟨by omega, by omega⟩ ?_
      refine x_vret dX1_count_115 rfl ?_
      refine ⟨rfl, Or.inr (Or.inr ⟨?_, ?_, ?_⟩)⟩
      · rw [← hsp]; omega
      · omega
      · rw [← hsp, Int.mul_comm]
    · refine x_aload_n 1 dX1_count_30 rfl rfl ?_
      refine x_getr (k := 0) (d := 1) dX1_count_31 fl1_9 ko rfl (fun k43 => ?_)
      refine x_iload_n 0 dX1_count_34 rfl rfl ?_
      refine x_dup2 dX1_count_35 rfl rfl ?_
      refine x_iald dX1_count_36 k43 (by omega) (by omega) (by decide) (fun ⟨a44, a44'⟩ => ?_)
      refine x_iconst (1) dX1_count_37 rfl ?_
      refine x_iadd dX1_count_38 ?_
      refine x_iast dX1_count_39 k43 (by omega) (by omega) (by decide) ⟨by omega, by omega⟩ ?_
      refine x_vret dX1_count_40 rfl ?_
      refine ⟨rfl, Or.inr (Or.inl ⟨?_, ?_, ?_⟩)⟩
      · rw [← hsp]; omega
      · omega
      · rw [← hsp]
  · refine x_vret dX1_count_20 rfl ?_
    refine ⟨rfl, Or.inl ⟨?_, rfl⟩⟩
    rw [← hsp]; omega

set_option maxHeartbeats 600000 in
set_option maxRecDepth 100000 in
theorem c_X1_isAhead (g : GG) (M : Mem) (o a b : Int) (ko : isK 1 7 o) (a0 : 0 ≤ a ∧ a < 8) (b0 : 0 ≤ b ∧ b < 8) : Ct g yX1_isAhead cX1_isAhead 3 (some .boolean) 0 [rv g o, iv a, iv b] M (pIP (fun z => (z = 1 ∧ AHa M o a b) ∨ (z = 0 ∧ ¬ AHa M o a b)) M) := by
  refine ct_of (by decide +kernel) (Nat.le_of_ble_eq_true rfl) ?_
  show Ok g mX1_isAhead (rmd 0) (FQ g (pIP (fun z => (z = 1 ∧ AHa M o a b) ∨ (z = 0 ∧ ¬ AHa M o a b)) M)) 0 [(0, rv g o), (1, iv a), (2, iv b)] [] M
  refine x_aload_n 0 dX1_isAhead_0 rfl rfl ?_
  refine x_getr (k := 2) (d := 3) dX1_isAhead_1 fl1_18 ko rfl (fun k1 => ?_)
  refine x_iload_n 1 dX1_isAhead_4 rfl rfl ?_
  refine x_iald dX1_isAhead_5 k1 (by omega) (by omega) (by decide) (fun ⟨a2, a2'⟩ => ?_)
  refine x_aload_n 0 dX1_isAhead_6 rfl rfl ?_
  refine x_getr (k := 2) (d := 3) dX1_isAhead_7 fl1_18 ko rfl (fun k3 => ?_)
  refine x_iload_n 2 dX1_isAhead_10 rfl rfl ?_
  refine x_iald dX1_isAhead_11 k3 (by omega) (by omega) (by decide) (fun ⟨a4, a4'⟩ => ?_)
  refine x_icmp_eq (tgt := 36) dX1_isAhead_12 (by decide) ⟨by omega, by omega⟩ ⟨by omega, by omega⟩ (fun c5 => ?_) (fun c5 => ?_)
  · refine x_aload_n 0 dX1_isAhead_36 rfl rfl ?_
    refine x_getr (k := 3) (d := 4) dX1_isAhead_37 fl1_21 ko rfl (fun k6 => ?_)
    refine x_iload_n 1 dX1_isAhead_40 rfl rfl ?_
    refine x_iald dX1_isAhead_41 k6 (by omega) (by omega) (by decide) (fun ⟨a7, a7'⟩ => ?_)
    refine x_aload_n 0 dX1_isAhead_42 rfl rfl ?_
    refine x_getr (k := 3) (d := 4) dX1_isAhead_43 fl1_21 ko rfl (fun k8 => ?_)
    refine x_iload_n 2 dX1_isAhead_46 rfl rfl ?_
    refine x_iald dX1_isAhead_47 k8 (by omega) (by omega) (by decide) (fun ⟨a9, a9'⟩ => ?_)
    refine x_icmp_eq (tgt := 72) dX1_isAhead_48 (by decide) ⟨by omega, by omega⟩ ⟨by omega, by omega⟩ (fun c10 => ?_) (fun c10 => ?_)
    · refine x_aload_n 0 dX1_isAhead_72 rfl rfl ?_
      refine x_getr (k := 4) (d := 5) dX1_isAhead_73 fl1_24 ko rfl (fun k11 => ?_)
      refine x_iload_n 1 dX1_isAhead_76 rfl rfl ?_
      refine x_iald dX1_isAhead_77 k11 (by omega) (by omega) (by decide) (fun ⟨a12, a12'⟩ => ?_)
      refine x_aload_n 0 dX1_isAhead_78 rfl rfl ?_
      refine x_getr (k := 4) (d := 5) dX1_isAhead_79 fl1_24 ko rfl (fun k13 => ?_)
      refine x_iload_n 2 dX1_isAhead_82 rfl rfl ?_
      refine x_iald dX1_isAhead_83 k13 (by omega) (by omega) (by decide) (fun ⟨a14, a14'⟩ => ?_)
      refine x_icmp_eq (tgt := 108) dX1_isAhead_84 (by decide) ⟨by omega, by omega⟩ ⟨by omega, by omega⟩ (fun c15 => ?_) (fun c15 => ?_)
      · refine x_iload_n 1 dX1_isAhead_108 rfl rfl ?_
        refine x_iload_n 2 dX1_isAhead_109 rfl rfl ?_
        refine x_icmp_ge (tgt := 117) dX1_isAhead_110 (by decide) ⟨by omega, by omega⟩ ⟨by omega, by omega⟩ (fun c16 => ?_) (fun c16 => ?_)
        · refine x_iconst (0) dX1_isAhead_117 rfl ?_
          refine x_iret dX1_isAhead_118 rfl (iZ_bool (by omega)) ?_
          exact ⟨_, rfl, rfl, by unfold AHa; omega⟩
        · refine x_iconst (1) dX1_isAhead_113 rfl ?_
          refine x_goto (tgt := 118) dX1_isAhead_114 (by decide) ?_
          refine x_iret dX1_isAhead_118 rfl (iZ_bool (by omega)) ?_
          exact ⟨_, rfl, rfl, by unfold AHa; omega⟩
      · refine x_aload_n 0 dX1_isAhead_87 rfl rfl ?_
        refine x_getr (k := 4) (d := 5) dX1_isAhead_88 fl1_24 ko rfl (fun k17 => ?_)
        refine x_iload_n 1 dX1_isAhead_91 rfl rfl ?_
        refine x_iald dX1_isAhead_92 k17 (by omega) (by omega) (by decide) (fun ⟨a18, a18'⟩ => ?_)
        refine x_aload_n 0 dX1_isAhead_93 rfl rfl ?_
        refine x_getr (k := 4) (d := 5) dX1_isAhead_94 fl1_24 ko rfl (fun k19 => ?_)
        refine x_iload_n 2 dX1_isAhead_97 rfl rfl ?_
        refine x_iald dX1_isAhead_98 k19 (by omega) (by omega) (by decide) (fun ⟨a20, a20'⟩ => ?_)
        refine x_icmp_ge (tgt := 106) dX1_isAhead_99 (by decide) ⟨by omega, by omega⟩ ⟨by omega, by omega⟩ (fun c21 => ?_) (fun c21 => ?_)
        · refine x_iconst (0) dX1_isAhead_106 rfl ?_
          refine x_iret dX1_isAhead_107 rfl (iZ_bool (by omega)) ?_
          exact ⟨_, rfl, rfl, by unfold AHa; omega⟩
        · refine x_iconst (1) dX1_isAhead_102 rfl ?_
          refine x_goto (tgt := 107) dX1_isAhead_103 (by decide) ?_
          refine x_iret dX1_isAhead_107 rfl (iZ_bool (by omega)) ?_
          exact ⟨_, rfl, rfl, by unfold AHa; omega⟩
    · refine x_aload_n 0 dX1_isAhead_51 rfl rfl ?_
      refine x_getr (k := 3) (d := 4) dX1_isAhead_52 fl1_21 ko rfl (fun k22 => ?_)
      refine x_iload_n 1 dX1_isAhead_55 rfl rfl ?_
      refine x_iald dX1_isAhead_56 k22 (by omega) (by omega) (by decide) (fun ⟨a23, a23'⟩ => ?_)
      refine x_aload_n 0 dX1_isAhead_57 rfl rfl ?_
      refine x_getr (k := 3) (d := 4) dX1_isAhead_58 fl1_21 ko rfl (fun k24 => ?_)
      refine x_iload_n 2 dX1_isAhead_61 rfl rfl ?_
      refine x_iald dX1_isAhead_62 k24 (by omega) (by omega) (by decide) (fun ⟨a25, a25'⟩ => ?_)
      refine x_icmp_ge (tgt := 70) dX1_isAhead_63 (by decide) ⟨by omega, by omega⟩ ⟨by omega, by omega⟩ (fun c26 => ?_) (fun c26 => ?_)
      · refine x_iconst (0) dX1_isAhead_70 rfl ?_
        refine x_iret dX1_isAhead_71 rfl (iZ_bool (by omega)) ?_
        exact ⟨_, rfl, rfl, by unfold AHa; omega⟩
      · refine x_iconst (1) dX1_isAhead_66 rfl ?_
        refine x_goto (tgt := 71) dX1_isAhead_67 (by decide) ?_
        refine x_iret dX1_isAhead_71 rfl (iZ_bool (by omega)) ?_
        exact ⟨_, rfl, rfl, by unfold AHa; omega⟩
  · refine x_aload_n 0 dX1_isAhead_15 rfl rfl ?_
    refine x_getr (k := 2) (d := 3) dX1_isAhead_16 fl1_18 ko rfl (fun k27 => ?_)
    refine x_iload_n 1 dX1_isAhead_19 rfl rfl ?_
    refine x_iald dX1_isAhead_20 k27 (by omega) (by omega) (by decide) (fun ⟨a28, a28'⟩ => ?_)
    refine x_aload_n 0 dX1_isAhead_21 rfl rfl ?_
    refine x_getr (k := 2) (d := 3) dX1_isAhead_22 fl1_18 ko rfl (fun k29 => ?_)
    refine x_iload_n 2 dX1_isAhead_25 rfl rfl ?_
    refine x_iald dX1_isAhead_26 k29 (by omega) (by omega) (by decide) (fun ⟨a30, a30'⟩ => ?_)
    refine x_icmp_le (tgt := 34) dX1_isAhead_27 (by decide) ⟨by omega, by omega⟩ ⟨by omega, by omega⟩ (fun c31 => ?_) (fun c31 => ?_)
    · refine x_iconst (0) dX1_isAhead_34 rfl ?_
      refine x_iret dX1_isAhead_35 rfl (iZ_bool (by omega)) ?_
      exact ⟨_, rfl, rfl, by unfold AHa; omega⟩
    · refine x_iconst (1) dX1_isAhead_30 rfl ?_
      refine x_goto (tgt := 35) dX1_isAhead_31 (by decide) ?_
      refine x_iret dX1_isAhead_35 rfl (iZ_bool (by omega)) ?_
      exact ⟨_, rfl, rfl, by unfold AHa; omega⟩
