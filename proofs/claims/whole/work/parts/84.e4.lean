set_option maxHeartbeats 600000 in
set_option maxRecDepth 100000 in
theorem c_X8_checksum (g : GG) (M : Mem)  (C : CR M) (hD : DKs M) : Ct g yX8_checksum cX8_checksum 6 (some .long) 2 [rv g 0] M (pLP (fun z => z = ckR (fun r t k => M 14 (M (8 * r + 155) t * 6 + k)) (fun r t => M 15 (M (8 * r + 155) t)) (fun r => M (20 * M (8 * r + 148) 5 + 48) 3) (M 0 12).toNat) M) := by
  refine ct_of (by decide +kernel) (Nat.le_of_ble_eq_true rfl) ?_
  show Ok g mX8_checksum (rmd 2) (FQ g (pLP (fun z => z = ckR (fun r t k => M 14 (M (8 * r + 155) t * 6 + k)) (fun r t => M 15 (M (8 * r + 155) t)) (fun r => M (20 * M (8 * r + 148) 5 + 48) 3) (M 0 12).toNat) M)) 0 [(0, rv g 0)] [] M
  have c0 := C.1
  have h_6 : ∀ (n_6 : Nat) (s : Int64) (r : Int), (0 ≤ r ∧ r ≤ M 0 12) → (s = ckR (fun r t k => M 14 (M (8 * r + 155) t * 6 + k)) (fun r t => M 15 (M (8 * r + 155) t)) (fun r => M (20 * M (8 * r + 148) 5 + 48) 3) r.toNat) → (M 0 12 - r).toNat < n_6 → Ok g mX8_checksum (rmd 2) (FQ g (pLP (fun z => z = ckR (fun r t k => M 14 (M (8 * r + 155) t * 6 + k)) (fun r t => M 15 (M (8 * r + 155) t)) (fun r => M (20 * M (8 * r + 148) 5 + 48) 3) (M 0 12).toNat) M)) 6 [(0, rv g 0), (1, .long s), (3, iv r)] [] M := by
    intro n_6
    induction n_6 with
    | zero => intro s r j0 j2 hn_6; exact absurd hn_6 (Nat.not_lt_zero _)
    | succ n_6 ih_6 =>
      intro s r j0 j2 hn_6
      refine x_iload_n 2 dX8_checksum_6 rfl rfl ?_
      refine x_aload_n 0 dX8_checksum_7 rfl rfl ?_
      refine x_geti (k := 12) (kI := 12) dX8_checksum_8 fl8_76 k_0 rfl rfl (fun ⟨a1, a1'⟩ => ?_)
      refine x_icmp_ge (tgt := 77) dX8_checksum_11 (by decide) ⟨by omega, by omega⟩ ⟨by omega, by omega⟩ (fun c2 => ?_) (fun c2 => ?_)
      · refine x_lload_n 1 dX8_checksum_77 rfl rfl ?_
        refine x_lret dX8_checksum_78 rfl ?_
        exact ⟨_, rfl, rfl, by rw [j2, show r = M 0 12 by omega]⟩
      · have i1 := C.run r (by omega) (by omega)
        have i2 := C.prob (M (8 * r + 148) 5) (by omega) (by omega)
        refine x_aload_n 0 dX8_checksum_14 rfl rfl ?_
        refine x_aload_n 0 dX8_checksum_15 rfl rfl ?_
        refine x_getr (k := 3) (d := 9) dX8_checksum_16 fl8_31 k_0 rfl (fun k3 => ?_)
        have k3 : isK 31 40 9 := k3
        show Ok g mX8_checksum (rmd 2) (FQ g (pLP (fun z => z = ckR (fun r t k => M 14 (M (8 * r + 155) t * 6 + k)) (fun r t => M 15 (M (8 * r + 155) t)) (fun r => M (20 * M (8 * r + 148) 5 + 48) 3) (M 0 12).toNat) M)) 19 [(0, rv g 0), (1, .long s), (3, iv r)] [rv g 9, rv g 0] M
        refine x_iload_n 2 dX8_checksum_19 rfl rfl ?_
        refine x_aald31 dX8_checksum_20 k3 (by omega) (by omega) (by decide) (fun k4 => ?_)
        have ek4 : 9 + (139 + 8 * r) = 8 * r + 148 := by omega
        rw [ek4] at k4 ⊢
        refine x_callVIP (as := [rv g (8 * r + 148)]) (rest := []) dX8_checksum_21 vl8_295 k_0 (c_X8_testCountOf g M r (by omega) (by omega) (by omega) (by omega)) rfl rfl (Nat.le_of_ble_eq_true rfl) ⟨Nat.le_of_ble_eq_true rfl, Nat.le_of_ble_eq_true rfl⟩ (fun z5 h6 => ?_)
        have htc := h6
        refine x_istore (lv' := [(4, iv z5), (0, rv g 0), (1, .long s), (3, iv r)]) dX8_checksum_24 (Nat.le_of_ble_eq_true rfl) rfl ?_
        refine x_iconst (0) dX8_checksum_26 rfl ?_
        refine x_istore (lv' := [(5, iv 0), (4, iv z5), (0, rv g 0), (1, .long s), (3, iv r)]) dX8_checksum_27 (Nat.le_of_ble_eq_true rfl) rfl ?_
        have h_29 : ∀ (n_29 : Nat) (u : Int64) (t : Int) (n : Int), (n = M (20 * M (8 * r + 148) 5 + 48) 3) → (0 ≤ t ∧ t ≤ n) → (u = ckT (fun t k => M 14 (M (8 * r + 155) t * 6 + k)) (fun t => M 15 (M (8 * r + 155) t)) s t.toNat) → (n - t).toNat < n_29 → Ok g mX8_checksum (rmd 2) (FQ g (pLP (fun z => z = ckR (fun r t k => M 14 (M (8 * r + 155) t * 6 + k)) (fun r t => M 15 (M (8 * r + 155) t)) (fun r => M (20 * M (8 * r + 148) 5 + 48) 3) (M 0 12).toNat) M)) 29 [(0, rv g 0), (1, .long u), (3, iv r), (4, iv n), (5, iv t)] [] M := by
          intro n_29
          induction n_29 with
          | zero => intro u t n l1 l0 l2 hn_29; exact absurd hn_29 (Nat.not_lt_zero _)
          | succ n_29 ih_29 =>
            intro u t n l1 l0 l2 hn_29
            refine x_iload 4 dX8_checksum_29 rfl ?_
            refine x_iload 3 dX8_checksum_31 rfl ?_
            refine x_icmp_ge (tgt := 71) dX8_checksum_33 (by decide) ⟨by omega, by omega⟩ ⟨by omega, by omega⟩ (fun c8 => ?_) (fun c8 => ?_)
            · refine x_iinc (z := r) (lv' := [(3, iv (r + 1)), (0, rv g 0), (1, .long u), (4, iv n), (5, iv t)]) 2 dX8_checksum_71 rfl (Nat.le_of_ble_eq_true rfl) rfl ?_
              refine x_goto (tgt := 6) dX8_checksum_74 (by decide) ?_
              refine x_sub [1, 2, 0] rfl ?_
              exact ih_6 _ _ (by omega) (by rw [ckR_s (by omega), ← j2, l2, show t = M (20 * M (8 * r + 148) 5 + 48) 3 by omega]) (by omega)
            · obtain ⟨-, -, -, -, -, d6, d7, d8, d9, d10⟩ := hD r t (by omega) (by omega) (by omega) (by omega)
              have d11 := d8.1
              refine x_ldc2 (v := 31) dX8_checksum_36 (inr40 _ (List.mem_of_getElem? (i := 23) rfl)) ?_
              refine x_aload_n 0 dX8_checksum_39 rfl rfl ?_
              refine x_getr (k := 5) (d := 13) dX8_checksum_40 fl8_45 k_0 rfl (fun k9 => ?_)
              have k9 : isK 7 4 13 := k9
              show Ok g mX8_checksum (rmd 2) (FQ g (pLP (fun z => z = ckR (fun r t k => M 14 (M (8 * r + 155) t * 6 + k)) (fun r t => M 15 (M (8 * r + 155) t)) (fun r => M (20 * M (8 * r + 148) 5 + 48) 3) (M 0 12).toNat) M)) 43 [(0, rv g 0), (1, .long u), (3, iv r), (4, iv n), (5, iv t)] [rv g 13, .long 31] M
              refine x_lload_n 1 dX8_checksum_43 rfl rfl ?_
              refine x_aload_n 0 dX8_checksum_44 rfl rfl ?_
              refine x_getr (k := 3) (d := 9) dX8_checksum_45 fl8_31 k_0 rfl (fun k10 => ?_)
              have k10 : isK 31 40 9 := k10
              show Ok g mX8_checksum (rmd 2) (FQ g (pLP (fun z => z = ckR (fun r t k => M 14 (M (8 * r + 155) t * 6 + k)) (fun r t => M 15 (M (8 * r + 155) t)) (fun r => M (20 * M (8 * r + 148) 5 + 48) 3) (M 0 12).toNat) M)) 48 [(0, rv g 0), (1, .long u), (3, iv r), (4, iv n), (5, iv t)] [rv g 9, .long u, rv g 13, .long 31] M
              refine x_iload_n 2 dX8_checksum_48 rfl rfl ?_
              refine x_aald31 dX8_checksum_49 k10 (by omega) (by omega) (by decide) (fun k11 => ?_)
              have ek11 : 9 + (139 + 8 * r) = 8 * r + 148 := by omega
              rw [ek11] at k11 ⊢
              refine x_getr (k := 3) (d := 7) dX8_checksum_50 fl8_212 k11 rfl (fun k12 => ?_)
              have ek12 : (8 * r + 148 + 7 : Int) = 8 * r + 155 := by omega
              rw [ek12] at k12 ⊢
              refine x_iload 4 dX8_checksum_53 rfl ?_
              refine x_iald dX8_checksum_55 k12 (by omega) (by omega) (by decide) (fun ⟨a13, a13'⟩ => ?_)
              refine x_callVLP (as := [.long u, iv (M (8 * r + 155) t)]) (rest := [.long 31]) dX8_checksum_56 vl8_303 k9 (c_X7_addTo g M u (M (8 * r + 155) t) ⟨by omega, by omega⟩ ⟨by omega, by omega⟩) rfl rfl (Nat.le_of_ble_eq_true rfl) ⟨Nat.le_of_ble_eq_true rfl, Nat.le_of_ble_eq_true rfl⟩ (fun z14 h15 => ?_)
              have ha := h15
              refine x_lmul dX8_checksum_59 ?_
              refine x_ldc2 (v := 1000) dX8_checksum_60 (inr41 _ (List.mem_of_getElem? (i := 0) rfl)) ?_
              refine x_ladd dX8_checksum_63 ?_
              refine x_lstore_n (lv' := [(1, .long ((31 * z14) + 1000)), (0, rv g 0), (3, iv r), (4, iv n), (5, iv t)]) dX8_checksum_64 rfl (Nat.le_of_ble_eq_true rfl) rfl ?_
              refine x_iinc (z := t) (lv' := [(5, iv (t + 1)), (1, .long ((31 * z14) + 1000)), (0, rv g 0), (3, iv r), (4, iv n)]) 4 dX8_checksum_65 rfl (Nat.le_of_ble_eq_true rfl) rfl ?_
              refine x_goto (tgt := 29) dX8_checksum_68 (by decide) ?_
              refine x_sub [2, 1, 3, 4, 0] rfl ?_
              exact ih_29 _ _ _ (by omega) (by omega) (by rw [ckT_s (by omega), ← l2, ← ha]) (by omega)
        refine x_sub [2, 3, 4, 1, 0] rfl ?_
        exact h_29 _ _ _ _ (by omega) (by omega) (by rfl) (Nat.lt_succ_self _)
  refine x_ldc2 (v := 7) dX8_checksum_0 (inr40 _ (List.mem_of_getElem? (i := 22) rfl)) ?_
  refine x_lstore_n (lv' := [(1, .long 7), (0, rv g 0)]) dX8_checksum_3 rfl (Nat.le_of_ble_eq_true rfl) rfl ?_
  refine x_iconst (0) dX8_checksum_4 rfl ?_
  refine x_istore_n (lv' := [(3, iv 0), (1, .long 7), (0, rv g 0)]) dX8_checksum_5 rfl (Nat.le_of_ble_eq_true rfl) rfl ?_
  refine x_sub [2, 1, 0] rfl ?_
  exact h_6 _ _ _ (by omega) (by rfl) (Nat.lt_succ_self _)
