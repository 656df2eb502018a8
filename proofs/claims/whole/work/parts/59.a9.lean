set_option maxHeartbeats 600000 in
set_option maxRecDepth 100000 in
theorem c_X0_dropFromQueue (g : GG) (M : Mem) (c f n : Int) (c0 : 0 ≤ c ∧ c < 4) (h0 : 0 ≤ f ∧ 0 ≤ n ∧ f + n ≤ M 24 c ∧ M 24 c ≤ 40) : Ct g yX0_dropFromQueue cX0_dropFromQueue 6 none 0 [rv g 17, iv c, iv f, iv n] M (pV (fun M' => DQ M c f n M')) := by
  refine ct_of (by decide +kernel) (Nat.le_of_ble_eq_true rfl) ?_
  show Ok g mX0_dropFromQueue (rmd 0) (FQ g (pV (fun M' => DQ M c f n M'))) 0 [(0, rv g 17), (1, iv c), (2, iv f), (3, iv n)] [] M
  have h_16 : ∀ (n_16 : Nat) (M1 : Mem) (i : Int) (kq : isK 20 40 (c + 20)), (f ≤ i ∧ i + n ≤ M 24 c ∧ 0 < n) → (∀ o k, o ≠ c + 20 → M1 o k = M o k) → (∀ j, 0 ≤ j → j < f → M1 (c + 20) j = M (c + 20) j) → (∀ j, f ≤ j → j < i → M1 (c + 20) j = M (c + 20) (j + n)) → (∀ j, i ≤ j → M1 (c + 20) j = M (c + 20) j) → (M 24 c - i).toNat < n_16 → Ok g mX0_dropFromQueue (rmd 0) (FQ g (pV (fun M' => DQ M c f n M'))) 16 [(0, rv g 17), (1, iv c), (2, iv f), (3, iv n), (4, rv g (c + 20)), (5, iv i)] [] M1 := by
    intro n_16
    induction n_16 with
    | zero => intro M1 i kq j0 j1 j2 j3 j4 hn_16; exact absurd hn_16 (Nat.not_lt_zero _)
    | succ n_16 ih_16 =>
      intro M1 i kq j0 j1 j2 j3 j4 hn_16
      refine x_iload 5 dX0_dropFromQueue_16 rfl ?_
      refine x_iload_n 3 dX0_dropFromQueue_18 rfl rfl ?_
      refine x_iadd dX0_dropFromQueue_19 ?_
      refine x_aload_n 0 dX0_dropFromQueue_20 rfl rfl ?_
      refine x_getr (k := 2) (d := 7) dX0_dropFromQueue_21 fl0_20 k_17 rfl (fun k1 => ?_)
      have k1 : isK 20 4 24 := k1
      show Ok g mX0_dropFromQueue (rmd 0) (FQ g (pV (fun M' => DQ M c f n M'))) 24 [(0, rv g 17), (1, iv c), (2, iv f), (3, iv n), (4, rv g (c + 20)), (5, iv i)] [rv g 24, iv (i + n)] M1
      refine x_iload_n 1 dX0_dropFromQueue_24 rfl rfl ?_
      refine x_iald dX0_dropFromQueue_25 k1 (by omega) (by omega) (by decide) (fun ⟨a2, a2'⟩ => ?_)
      have e3 : M1 24 c = M 24 c := (j1 _ _ (by omega))
      simp only [e3] at a2 a2' ⊢
      refine x_icmp_ge (tgt := 47) dX0_dropFromQueue_26 (by decide) ⟨by omega, by omega⟩ ⟨by omega, by omega⟩ (fun c4 => ?_) (fun c4 => ?_)
      · refine x_aload_n 0 dX0_dropFromQueue_47 rfl rfl ?_
        refine x_getr (k := 2) (d := 7) dX0_dropFromQueue_48 fl0_20 k_17 rfl (fun k5 => ?_)
        have k5 : isK 20 4 24 := k5
        show Ok g mX0_dropFromQueue (rmd 0) (FQ g (pV (fun M' => DQ M c f n M'))) 51 [(0, rv g 17), (1, iv c), (2, iv f), (3, iv n), (4, rv g (c + 20)), (5, iv i)] [rv g 24] M1
        refine x_iload_n 1 dX0_dropFromQueue_51 rfl rfl ?_
        refine x_dup2 dX0_dropFromQueue_52 rfl rfl ?_
        refine x_iald dX0_dropFromQueue_53 k5 (by omega) (by omega) (by decide) (fun ⟨a6, a6'⟩ => ?_)
        have e7 : M1 24 c = M 24 c := (j1 _ _ (by omega))
        simp only [e7] at a6 a6' ⊢
        refine x_iload_n 3 dX0_dropFromQueue_54 rfl rfl ?_
        refine x_isub dX0_dropFromQueue_55 ?_
        refine x_iast dX0_dropFromQueue_56 k5 (by omega) (by omega) (by decide) ⟨by omega, by omega⟩ ?_
        refine x_vret dX0_dropFromQueue_57 rfl ?_
        refine ⟨rfl, fun o k h1 h2 => ?_, ?_, fun j x0 x1 => ?_, fun j x0 x1 => ?_⟩
        · rw [up_n h2]; exact j1 o k h1
        · rw [up_s]
        · rw [up_o (by omega)]; exact j2 j x0 x1
        · rw [up_o (by omega)]; exact j3 j x0 (by omega)
      · refine x_aload 4 dX0_dropFromQueue_29 rfl ?_
        refine x_iload 5 dX0_dropFromQueue_31 rfl ?_
        refine x_aload 4 dX0_dropFromQueue_33 rfl ?_
        refine x_iload 5 dX0_dropFromQueue_35 rfl ?_
        refine x_iload_n 3 dX0_dropFromQueue_37 rfl rfl ?_
        refine x_iadd dX0_dropFromQueue_38 ?_
        refine x_iald dX0_dropFromQueue_39 kq (by omega) (by omega) (by decide) (fun ⟨a8, a8'⟩ => ?_)
        have e9 : M1 (c + 20) (i + n) = M (c + 20) (i + n) := (j4 _ (by omega))
        simp only [e9] at a8 a8' ⊢
        refine x_iast dX0_dropFromQueue_40 kq (by omega) (by omega) (by decide) ⟨by omega, by omega⟩ ?_
        refine x_iinc (z := i) (lv' := [(5, iv (i + 1)), (0, rv g 17), (1, iv c), (2, iv f), (3, iv n), (4, rv g (c + 20))]) 5 dX0_dropFromQueue_41 rfl (Nat.le_of_ble_eq_true rfl) rfl ?_
        refine x_goto (tgt := 16) dX0_dropFromQueue_44 (by decide) ?_
        refine x_sub [1, 2, 3, 4, 5, 0] rfl ?_
        exact ih_16 _ _ (kq) (by omega) (by intro o k h; rw [up_o h]; exact j1 o k h) (by intro j x0 x1; rw [up_k (by omega)]; exact j2 j x0 x1) (by intro j x0 x1; rcases Int.lt_or_eq_of_le (show j ≤ i by omega) with e | e; rw [up_k (by omega)]; exact j3 j x0 e; rw [e, up_s]) (by intro j x0; rw [up_k (by omega)]; exact j4 j (by omega)) (by omega)
  refine x_iload_n 3 dX0_dropFromQueue_0 rfl rfl ?_
  refine x_if_ne (tgt := 5) dX0_dropFromQueue_1 (by decide) ⟨by omega, by omega⟩ (fun c10 => ?_) (fun c10 => ?_)
  · refine x_aload_n 0 dX0_dropFromQueue_5 rfl rfl ?_
    refine x_getr (k := 1) (d := 2) dX0_dropFromQueue_6 fl0_17 k_17 rfl (fun k11 => ?_)
    have k11 : isK 33 4 19 := k11
    show Ok g mX0_dropFromQueue (rmd 0) (FQ g (pV (fun M' => DQ M c f n M'))) 9 [(0, rv g 17), (1, iv c), (2, iv f), (3, iv n)] [rv g 19] M
    refine x_iload_n 1 dX0_dropFromQueue_9 rfl rfl ?_
    refine x_aald33 dX0_dropFromQueue_10 k11 (by omega) (by omega) (by decide) (fun k12 => ?_)
    have ek12 : 19 + (1 + c) = c + 20 := by omega
    rw [ek12] at k12 ⊢
    refine x_astore (lv' := [(4, rv g (c + 20)), (0, rv g 17), (1, iv c), (2, iv f), (3, iv n)]) dX0_dropFromQueue_11 (Nat.le_of_ble_eq_true rfl) rfl ?_
    refine x_iload_n 3 dX0_dropFromQueue_13 rfl rfl ?_
    refine x_istore (lv' := [(5, iv f), (4, rv g (c + 20)), (0, rv g 17), (1, iv c), (2, iv f), (3, iv n)]) dX0_dropFromQueue_14 (Nat.le_of_ble_eq_true rfl) rfl ?_
    refine x_sub [2, 3, 4, 5, 1, 0] rfl ?_
    exact h_16 _ _ _ (k12) (by omega) (by intro o k _; rfl) (by intro j _ _; rfl) (by intro j _ _; omega) (by intro j _; rfl) (Nat.lt_succ_self _)
  · refine x_vret dX0_dropFromQueue_4 rfl ?_
    refine ⟨rfl, fun o k _ _ => rfl, by omega, fun j _ _ => rfl, fun j x0 x1 => ?_⟩
    rw [show n = 0 by omega, Int.add_zero]

set_option maxHeartbeats 600000 in
set_option maxRecDepth 100000 in
theorem c_X0_serve (g : GG) (M : Mem) (c : Int) (b : BSt) (c0 : 0 ≤ c ∧ c < 4) (hb : RAb M c b) (hq : QN b) (h2 : -1000000 ≤ b.2.2.1 ∧ b.2.2.1 ≤ 1000000 ∧ -1000000 ≤ b.2.2.2.2 ∧ b.2.2.2.2 ≤ 1000000) : Ct g yX0_serve cX0_serve 3 none 1 [rv g 17, iv c] M (pV (fun M' => FRb M c M' ∧ RAb M' c (SVo b))) := by
  refine ct_of (by decide +kernel) (Nat.le_of_ble_eq_true rfl) ?_
  show Ok g mX0_serve (rmd 1) (FQ g (pV (fun M' => FRb M c M' ∧ RAb M' c (SVo b)))) 0 [(0, rv g 17), (1, iv c)] [] M
  obtain ⟨r1, r2, r3, r4, r5⟩ := id hb
  have r6 := r2.1
  have r7 := hq.len
  have h_2 : ∀ (n_2 : Nat) (M1 : Mem) (s : Int), (0 ≤ s ∧ s ≤ M 24 c ∧ (s = 0 ∨ s ≤ b.2.2.1)) → (∀ o k, o ≠ 18 → ¬ (k = c ∧ 25 ≤ o ∧ o ≤ 26) → M1 o k = M o k) → (∀ x, 0 ≤ x → x < 40 → M1 18 x = if x ∈ b.2.1.take s.toNat then 111 else b.1 x) → (M1 25 c = b.2.2.1 - s ∧ M1 26 c = b.2.2.2.2 + s) → (M 24 c - s).toNat < n_2 → Ok g mX0_serve (rmd 1) (FQ g (pV (fun M' => FRb M c M' ∧ RAb M' c (SVo b)))) 2 [(0, rv g 17), (1, iv c), (2, iv s)] [] M1 := by
    intro n_2
    induction n_2 with
    | zero => intro M1 s j0 j1 j2 j3 hn_2; exact absurd hn_2 (Nat.not_lt_zero _)
    | succ n_2 ih_2 =>
      intro M1 s j0 j1 j2 j3 hn_2
      refine x_iload_n 2 dX0_serve_2 rfl rfl ?_
      refine x_aload_n 0 dX0_serve_3 rfl rfl ?_
      refine x_getr (k := 2) (d := 7) dX0_serve_4 fl0_20 k_17 rfl (fun k1 => ?_)
      have k1 : isK 20 4 24 := k1
      show Ok g mX0_serve (rmd 1) (FQ g (pV (fun M' => FRb M c M' ∧ RAb M' c (SVo b)))) 7 [(0, rv g 17), (1, iv c), (2, iv s)] [rv g 24, iv s] M1
      refine x_iload_n 1 dX0_serve_7 rfl rfl ?_
      refine x_iald dX0_serve_8 k1 (by omega) (by omega) (by decide) (fun ⟨a2, a2'⟩ => ?_)
      have e3 : M1 24 c = M 24 c := (j1 _ _ (by omega) (by omega))
      simp only [e3] at a2 a2' ⊢
      refine x_icmp_ge (tgt := 62) dX0_serve_9 (by decide) ⟨by omega, by omega⟩ ⟨by omega, by omega⟩ (fun c4 => ?_) (fun c4 => ?_)
      · refine x_aload_n 0 dX0_serve_62 rfl rfl ?_
        refine x_iload_n 1 dX0_serve_63 rfl rfl ?_
        refine x_iconst (0) dX0_serve_64 rfl ?_
        refine x_iload_n 2 dX0_serve_65 rfl rfl ?_
        refine x_callVV (as := [iv c, iv 0, iv s]) (rest := []) dX0_serve_66 vl0_58 k_17 (c_X0_dropFromQueue g M1 c 0 s c0 (by rw [j1 _ _ (by omega) (by omega)]; omega)) rfl rfl (Nat.le_of_ble_eq_true rfl) ⟨Nat.le_of_ble_eq_true rfl, Nat.le_of_ble_eq_true rfl⟩ (fun M7 h6 => ?_)
        have hd := h6
        refine x_vret dX0_serve_69 rfl ?_
        have hs : svN b.2.2.1 b.2.1 = s.toNat := by unfold svN; omega
        obtain ⟨d1, d2, d3, d4⟩ := id hd
        have j5 : QL M1 c b.2.1 := ⟨by rw [j1 _ _ (by omega) (by omega)]; exact r6, fun k x hk => by rw [j1 _ _ (by omega) (by omega)]; exact r2.2 k x hk⟩
        refine ⟨rfl, fun o k x1 x2 x3 x4 => ?_, fun x x0 x1 => ?_, ?_, ?_, ?_, ?_⟩
        · rw [d1 _ _ x2 (by omega)]; exact j1 o k x1 (by omega)
        · rw [d1 _ _ (by omega) (by omega), j2 x x0 x1]
          show _ = if x ∈ b.2.1.take (svN b.2.2.1 b.2.1) then _ else _
          rw [hs]
        · show QL _ _ (b.2.1.drop (svN b.2.2.1 b.2.1))
          rw [hs]
          exact j5.dropN j0.1 (by rw [j1 _ _ (by omega) (by omega)]; omega) hd
        · rw [d1 _ _ (by omega) (by omega), j3.1]
          show _ = b.2.2.1 - ((svN b.2.2.1 b.2.1 : Nat) : Int)
          rw [hs]; omega
        · rw [d1 _ _ (by omega) (by omega), j1 _ _ (by omega) (by omega)]; exact r4
        · rw [d1 _ _ (by omega) (by omega), j3.2]
          show _ = b.2.2.2.2 + ((svN b.2.2.1 b.2.1 : Nat) : Int)
          rw [hs]; omega
      · obtain ⟨y, hy1, hy2⟩ := r2.at (s := s) (by omega) (by omega)
        have hy3 := hq.2 y (List.mem_of_getElem? hy1)
        refine x_aload_n 0 dX0_serve_12 rfl rfl ?_
        refine x_getr (k := 3) (d := 8) dX0_serve_13 fl0_24 k_17 rfl (fun k8 => ?_)
        have k8 : isK 20 4 25 := k8
        show Ok g mX0_serve (rmd 1) (FQ g (pV (fun M' => FRb M c M' ∧ RAb M' c (SVo b)))) 16 [(0, rv g 17), (1, iv c), (2, iv s)] [rv g 25] M1
        refine x_iload_n 1 dX0_serve_16 rfl rfl ?_
        refine x_iald dX0_serve_17 k8 (by omega) (by omega) (by decide) (fun ⟨a9, a9'⟩ => ?_)
        have e10 : M1 25 c = b.2.2.1 - s := j3.1
        simp only [e10] at a9 a9' ⊢
        refine x_if_le (tgt := 62) dX0_serve_18 (by decide) ⟨by omega, by omega⟩ (fun c11 => ?_) (fun c11 => ?_)
        · refine x_aload_n 0 dX0_serve_62 rfl rfl ?_
          refine x_iload_n 1 dX0_serve_63 rfl rfl ?_
          refine x_iconst (0) dX0_serve_64 rfl ?_
          refine x_iload_n 2 dX0_serve_65 rfl rfl ?_
          refine x_callVV (as := [iv c, iv 0, iv s]) (rest := []) dX0_serve_66 vl0_58 k_17 (c_X0_dropFromQueue g M1 c 0 s c0 (by rw [j1 _ _ (by omega) (by omega)]; omega)) rfl rfl (Nat.le_of_ble_eq_true rfl) ⟨Nat.le_of_ble_eq_true rfl, Nat.le_of_ble_eq_true rfl⟩ (fun M14 h13 => ?_)
          have hd := h13
          refine x_vret dX0_serve_69 rfl ?_
          have hs : svN b.2.2.1 b.2.1 = s.toNat := by unfold svN; omega
          obtain ⟨d1, d2, d3, d4⟩ := id hd
          have j5 : QL M1 c b.2.1 := ⟨by rw [j1 _ _ (by omega) (by omega)]; exact r6, fun k x hk => by rw [j1 _ _ (by omega) (by omega)]; exact r2.2 k x hk⟩
          refine ⟨rfl, fun o k x1 x2 x3 x4 => ?_, fun x x0 x1 => ?_, ?_, ?_, ?_, ?_⟩
          · rw [d1 _ _ x2 (by omega)]; exact j1 o k x1 (by omega)
          · rw [d1 _ _ (by omega) (by omega), j2 x x0 x1]
            show _ = if x ∈ b.2.1.take (svN b.2.2.1 b.2.1) then _ else _
            rw [hs]
          · show QL _ _ (b.2.1.drop (svN b.2.2.1 b.2.1))
            rw [hs]
            exact j5.dropN j0.1 (by rw [j1 _ _ (by omega) (by omega)]; omega) hd
          · rw [d1 _ _ (by omega) (by omega), j3.1]
            show _ = b.2.2.1 - ((svN b.2.2.1 b.2.1 : Nat) : Int)
            rw [hs]; omega
          · rw [d1 _ _ (by omega) (by omega), j1 _ _ (by omega) (by omega)]; exact r4
          · rw [d1 _ _ (by omega) (by omega), j3.2]
            show _ = b.2.2.2.2 + ((svN b.2.2.1 b.2.1 : Nat) : Int)
            rw [hs]; omega
        · refine x_aload_n 0 dX0_serve_21 rfl rfl ?_
          refine x_getr (k := 0) (d := 1) dX0_serve_22 fl0_9 k_17 rfl (fun k15 => ?_)
          have k15 : isK 21 40 18 := k15
          show Ok g mX0_serve (rmd 1) (FQ g (pV (fun M' => FRb M c M' ∧ RAb M' c (SVo b)))) 25 [(0, rv g 17), (1, iv c), (2, iv s)] [rv g 18] M1
          refine x_aload_n 0 dX0_serve_25 rfl rfl ?_
          refine x_getr (k := 1) (d := 2) dX0_serve_26 fl0_17 k_17 rfl (fun k16 => ?_)
          have k16 : isK 33 4 19 := k16
          show Ok g mX0_serve (rmd 1) (FQ g (pV (fun M' => FRb M c M' ∧ RAb M' c (SVo b)))) 29 [(0, rv g 17), (1, iv c), (2, iv s)] [rv g 19, rv g 18] M1
          refine x_iload_n 1 dX0_serve_29 rfl rfl ?_
          refine x_aald33 dX0_serve_30 k16 (by omega) (by omega) (by decide) (fun k17 => ?_)
          have ek17 : 19 + (1 + c) = c + 20 := by omega
          rw [ek17] at k17 ⊢
          refine x_iload_n 2 dX0_serve_31 rfl rfl ?_
          refine x_iald dX0_serve_32 k17 (by omega) (by omega) (by decide) (fun ⟨a18, a18'⟩ => ?_)
          have e19 : M1 (c + 20) s = M (c + 20) s := (j1 _ _ (by omega) (by omega))
          simp only [e19] at a18 a18' ⊢
          refine x_bipush (111) dX0_serve_33 rfl ?_
          refine x_cast dX0_serve_35 k15 (by omega) (by omega) (by decide) ⟨by decide, by decide⟩ (by omega) (by omega) ?_
          refine x_aload_n 0 dX0_serve_36 rfl rfl ?_
          refine x_getr (k := 3) (d := 8) dX0_serve_37 fl0_24 k_17 rfl (fun k20 => ?_)
          have k20 : isK 20 4 25 := k20
          show Ok g mX0_serve (rmd 1) (FQ g (pV (fun M' => FRb M c M' ∧ RAb M' c (SVo b)))) 40 [(0, rv g 17), (1, iv c), (2, iv s)] [rv g 25] (up M1 18 (M (c + 20) s) 111)
          refine x_iload_n 1 dX0_serve_40 rfl rfl ?_
          refine x_dup2 dX0_serve_41 rfl rfl ?_
          refine x_iald dX0_serve_42 k20 (by omega) (by omega) (by decide) (fun ⟨a21, a21'⟩ => ?_)
          have e22 : (up M1 18 (M (c + 20) s) 111) 25 c = b.2.2.1 - s := (Eq.trans (b := M1 25 c) (by simp (disch := omega) only [up_o, up_k]) j3.1)
          simp only [e22] at a21 a21' ⊢
          refine x_iconst (1) dX0_serve_43 rfl ?_
          refine x_isub dX0_serve_44 ?_
          refine x_iast dX0_serve_45 k20 (by omega) (by omega) (by decide) ⟨by omega, by omega⟩ ?_
          refine x_aload_n 0 dX0_serve_46 rfl rfl ?_
          refine x_getr (k := 4) (d := 9) dX0_serve_47 fl0_27 k_17 rfl (fun k23 => ?_)
          have k23 : isK 20 4 26 := k23
          show Ok g mX0_serve (rmd 1) (FQ g (pV (fun M' => FRb M c M' ∧ RAb M' c (SVo b)))) 50 [(0, rv g 17), (1, iv c), (2, iv s)] [rv g 26] (up (up M1 18 (M (c + 20) s) 111) 25 c ((b.2.2.1 - s) - 1))
          refine x_iload_n 1 dX0_serve_50 rfl rfl ?_
          refine x_dup2 dX0_serve_51 rfl rfl ?_
          refine x_iald dX0_serve_52 k23 (by omega) (by omega) (by decide) (fun ⟨a24, a24'⟩ => ?_)
          have e25 : (up (up M1 18 (M (c + 20) s) 111) 25 c ((b.2.2.1 - s) - 1)) 26 c = b.2.2.2.2 + s := (Eq.trans (b := M1 26 c) (by simp (disch := omega) only [up_o, up_k]) j3.2)
          simp only [e25] at a24 a24' ⊢
          refine x_iconst (1) dX0_serve_53 rfl ?_
          refine x_iadd dX0_serve_54 ?_
          refine x_iast dX0_serve_55 k23 (by omega) (by omega) (by decide) ⟨by omega, by omega⟩ ?_
          refine x_iinc (z := s) (lv' := [(2, iv (s + 1)), (0, rv g 17), (1, iv c)]) 2 dX0_serve_56 rfl (Nat.le_of_ble_eq_true rfl) rfl ?_
          refine x_goto (tgt := 2) dX0_serve_59 (by decide) ?_
          refine x_sub [1, 2, 0] rfl ?_
          exact ih_2 _ _ (by omega) (by intro o k x0 x1; rw [up_n (by omega), up_n (by omega), up_o x0]; exact j1 o k x0 x1) (by intro x x0 x1; rw [up_o (by omega), up_o (by omega), show (s + 1).toNat = s.toNat + 1 by omega]; by_cases e : x = M (c + 20) s; rw [e, up_s, if_pos ((mem_take_s hy1).mpr (Or.inr hy2))]; rw [up_k e, j2 x x0 x1]; by_cases e2 : x ∈ b.2.1.take s.toNat; rw [if_pos e2, if_pos ((mem_take_s hy1).mpr (Or.inl e2))]; rw [if_neg e2, if_neg (fun w => (mem_take_s hy1).mp w |>.elim e2 (fun w2 => e (w2.trans hy2.symm)))]) (by refine ⟨?_, ?_⟩ <;> simp (disch := omega) only [up_o, up_s] <;> omega) (by omega)
  refine x_iconst (0) dX0_serve_0 rfl ?_
  refine x_istore_n (lv' := [(2, iv 0), (0, rv g 17), (1, iv c)]) dX0_serve_1 rfl (Nat.le_of_ble_eq_true rfl) rfl ?_
  refine x_sub [1, 2, 0] rfl ?_
  exact h_2 _ _ _ (by omega) (by intro o k _ _; rfl) (by intro x x0 x1; rw [if_neg (by simp)]; exact r1 x x0 x1) (by omega) (Nat.lt_succ_self _)
