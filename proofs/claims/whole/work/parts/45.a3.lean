set_option maxHeartbeats 600000 in
set_option maxRecDepth 100000 in
theorem c_X2_reset (g : GG) (M : Mem)   : Ct g yX2_reset cX2_reset 2 none 0 [rv g 10] M (pV (fun M' => RelA M M' ps0)) := by
  refine ct_of (by decide +kernel) (Nat.le_of_ble_eq_true rfl) ?_
  show Ok g mX2_reset (rmd 0) (FQ g (pV (fun M' => RelA M M' ps0))) 0 [(0, rv g 10)] [] M
  have h_2 : ∀ (n_2 : Nat) (M0 : Mem) (k : Int), (∀ o j, o ≠ 11 → M0 o j = M o j) → (∀ j, 0 ≤ j → j < k → M0 11 j = 0) → (0 ≤ k ∧ k ≤ 4) → (4 - k).toNat < n_2 → Ok g mX2_reset (rmd 0) (FQ g (pV (fun M' => RelA M M' ps0))) 2 [(0, rv g 10), (1, iv k)] [] M0 := by
    intro n_2
    induction n_2 with
    | zero => intro M0 k z0 z1 z2 hn_2; exact absurd hn_2 (Nat.not_lt_zero _)
    | succ n_2 ih_2 =>
      intro M0 k z0 z1 z2 hn_2
      refine x_iload_n 1 dX2_reset_2 rfl rfl ?_
      refine x_iconst (4) dX2_reset_3 rfl ?_
      refine x_icmp_ge (tgt := 20) dX2_reset_4 (by decide) ⟨by omega, by omega⟩ ⟨by decide, by decide⟩ (fun c1 => ?_) (fun c1 => ?_)
      · refine x_aload_n 0 dX2_reset_20 rfl rfl ?_
        refine x_iconst (0) dX2_reset_21 rfl ?_
        refine x_puti (k := 2) (kI := 2) dX2_reset_22 fw2_18 k_10 rfl ⟨by decide, by decide⟩ rfl rfl rfl ?_
        refine x_aload_n 0 dX2_reset_25 rfl rfl ?_
        refine x_iconst (0) dX2_reset_26 rfl ?_
        refine x_puti (k := 3) (kI := 3) dX2_reset_27 fw2_22 k_10 rfl ⟨by decide, by decide⟩ rfl rfl rfl ?_
        refine x_aload_n 0 dX2_reset_30 rfl rfl ?_
        refine x_iconst (0) dX2_reset_31 rfl ?_
        refine x_puti (k := 4) (kI := 4) dX2_reset_32 fw2_25 k_10 rfl ⟨by decide, by decide⟩ rfl rfl rfl ?_
        refine x_aload_n 0 dX2_reset_35 rfl rfl ?_
        refine x_iconst (0) dX2_reset_36 rfl ?_
        refine x_puti (k := 5) (kI := 5) dX2_reset_37 fw2_28 k_10 rfl ⟨by decide, by decide⟩ rfl rfl rfl ?_
        refine x_aload_n 0 dX2_reset_40 rfl rfl ?_
        refine x_bipush (45) dX2_reset_41 rfl ?_
        refine x_puti (k := 6) (kI := 6) dX2_reset_43 fw2_31 k_10 rfl ⟨by decide, by decide⟩ (iZ_char (by omega) (by omega)) (iZ_charF (by omega) (by omega)) rfl ?_
        refine x_vret dX2_reset_46 rfl ?_
        exact ⟨rfl, RelA.ini z0 (fun j j0 j1 => z1 j j0 (by omega))⟩
      · refine x_aload_n 0 dX2_reset_7 rfl rfl ?_
        refine x_getr (k := 0) (d := 1) dX2_reset_8 fl2_9 k_10 rfl (fun k2 => ?_)
        have k2 : isK 20 4 11 := k2
        show Ok g mX2_reset (rmd 0) (FQ g (pV (fun M' => RelA M M' ps0))) 11 [(0, rv g 10), (1, iv k)] [rv g 11] M0
        refine x_iload_n 1 dX2_reset_11 rfl rfl ?_
        refine x_iconst (0) dX2_reset_12 rfl ?_
        refine x_iast dX2_reset_13 k2 (by omega) (by omega) (by decide) ⟨by decide, by decide⟩ ?_
        refine x_iinc (z := k) (lv' := [(1, iv (k + 1)), (0, rv g 10)]) 1 dX2_reset_14 rfl (Nat.le_of_ble_eq_true rfl) rfl ?_
        refine x_goto (tgt := 2) dX2_reset_17 (by decide) ?_
        refine x_sub [1, 0] rfl ?_
        exact ih_2 _ _ (by intro o j h; rw [up_o h]; exact z0 o j h) (by intro j j0 j1; by_cases e : j = k; rw [e, up_s]; rw [up_k e]; exact z1 j j0 (by omega)) (by omega) (by omega)
  refine x_iconst (0) dX2_reset_0 rfl ?_
  refine x_istore_n (lv' := [(1, iv 0), (0, rv g 10)]) dX2_reset_1 rfl (Nat.le_of_ble_eq_true rfl) rfl ?_
  refine x_sub [1, 0] rfl ?_
  exact h_2 _ _ _ (by intro o j _; rfl) (by intro j _ _; omega) (by omega) (Nat.lt_succ_self _)

set_option maxHeartbeats 600000 in
set_option maxRecDepth 100000 in
theorem c_X2_execute (g : GG) (M : Mem) (pr nu lim : Int) (hp : PG M pr) (hn : NU M nu) (hl : 1 ≤ lim ∧ lim ≤ 400) : Ct g yX2_execute cX2_execute 5 none 2 [rv g 10, rv g pr, rv g nu, iv lim] M (pV (fun M' => EXP M pr nu lim M')) := by
  refine ct_of (by decide +kernel) (Nat.le_of_ble_eq_true rfl) ?_
  show Ok g mX2_execute (rmd 2) (FQ g (pV (fun M' => EXP M pr nu lim M'))) 0 [(0, rv g 10), (1, rv g pr), (2, rv g nu), (3, iv lim)] [] M
  obtain ⟨kp, p1, p2, p3, p4⟩ := id hp
  obtain ⟨kn, n1, n2, n3, n4, n5⟩ := id hn
  have h_7 : ∀ (n_7 : Nat) (M1 : Mem) (s : Mem) (i : Int), (RelA M M1 s) → (QA M pr nu lim s) → (i = s 5 0 ∧ 0 ≤ i ∧ i ≤ lim ∧ 0 ≤ s 4 0 ∧ s 4 0 ≤ M pr 3 ∧ 0 ≤ s 3 0 ∧ s 3 0 ≤ M nu 2) → (s 6 0 = 32 ∨ s 6 0 = 114 ∨ s 6 0 = 108) → (lim - i).toNat < n_7 → Ok g mX2_execute (rmd 2) (FQ g (pV (fun M' => EXP M pr nu lim M'))) 7 [(0, rv g 10), (1, rv g pr), (2, rv g nu), (3, iv lim), (4, iv i)] [] M1 := by
    intro n_7
    induction n_7 with
    | zero => intro M1 s i hR hQ q1 q2 hn_7; exact absurd hn_7 (Nat.not_lt_zero _)
    | succ n_7 ih_7 =>
      intro M1 s i hR hQ q1 q2 hn_7
      obtain ⟨z1, z0, z2, zo, z3, z4, z5, z6, z7, z8⟩ := id hR
      refine x_iload 4 dX2_execute_7 rfl ?_
      refine x_iload_n 3 dX2_execute_9 rfl rfl ?_
      refine x_icmp_ge (tgt := 55) dX2_execute_10 (by decide) ⟨by omega, by omega⟩ ⟨by omega, by omega⟩ (fun c1 => ?_) (fun c1 => ?_)
      · refine x_aload_n 0 dX2_execute_55 rfl rfl ?_
        refine x_geti (k := 6) (kI := 6) dX2_execute_56 fl2_31 k_10 rfl rfl (fun ⟨a2, a2'⟩ => ?_)
        refine x_bipush (45) dX2_execute_59 rfl ?_
        refine x_icmp_ne (tgt := 84) dX2_execute_61 (by decide) ⟨by omega, by omega⟩ ⟨by decide, by decide⟩ (fun c3 => ?_) (fun c3 => ?_)
        · refine x_aload_n 0 dX2_execute_84 rfl rfl ?_
          refine x_geti (k := 6) (kI := 6) dX2_execute_85 fl2_31 k_10 rfl rfl (fun ⟨a4, a4'⟩ => ?_)
          refine x_bipush (45) dX2_execute_88 rfl ?_
          refine x_icmp_ne (tgt := 119) dX2_execute_90 (by decide) ⟨by omega, by omega⟩ ⟨by decide, by decide⟩ (fun c5 => ?_) (fun c5 => ?_)
          · refine x_vret dX2_execute_119 rfl ?_
            first | (exfalso; omega) | exact ⟨rfl, EXP.of hR hQ (by omega) (by omega)⟩
          · refine x_aload_n 0 dX2_execute_93 rfl rfl ?_
            refine x_aload_n 2 dX2_execute_94 rfl rfl ?_
            refine x_aload_n 0 dX2_execute_95 rfl rfl ?_
            refine x_getr (k := 1) (d := 2) dX2_execute_96 fl2_15 k_10 rfl (fun k6 => ?_)
            have k6 : isK 20 6 12 := k6
            show Ok g mX2_execute (rmd 2) (FQ g (pV (fun M' => EXP M pr nu lim M'))) 99 [(0, rv g 10), (1, rv g pr), (2, rv g nu), (3, iv lim), (4, iv i)] [rv g 12, rv g nu, rv g 10] M1
            refine x_aload_n 0 dX2_execute_99 rfl rfl ?_
            refine x_geti (k := 2) (kI := 2) dX2_execute_100 fl2_18 k_10 rfl rfl (fun ⟨a7, a7'⟩ => ?_)
            have e8 : M1 10 2 = s 2 0 := z2
            simp only [e8] at a7 a7' ⊢
            refine x_callVIP (as := [rv g 12, iv (s 2 0)]) (rest := [rv g 10]) dX2_execute_103 vl2_47 kn (c_X3_isExpected g M1 nu (s 2 0) kn (by omega) (by omega) (by rw [hR.rd (by omega)]; omega) (by rw [hR.rd (by omega)]; omega)) rfl rfl (Nat.le_of_ble_eq_true rfl) ⟨Nat.le_of_ble_eq_true rfl, Nat.le_of_ble_eq_true rfl⟩ (fun z9 h10 => ?_)
            have hxp : z9 = 1 ↔ XPa M nu s := by
              have hq : (s 2 0 = M1 nu 3 ∧ ∀ k, 0 ≤ k → k < s 2 0 → M1 12 k = M1 (nu + 2) k) ↔ XPa M nu s := by
                unfold XPa
                rw [hR.rd (o := nu) (by omega)]
                refine and_congr_right fun _ => ⟨fun h j j0 j1 => ?_, fun h j j0 j1 => ?_⟩
                · have h9 := h j j0 j1
                  rw [zo j j0 j1, hR.rd (by omega)] at h9
                  exact h9
                · rw [zo j j0 j1, hR.rd (by omega)]
                  exact h j j0 j1
              rw [← hq]
              constructor
              · intro e; rcases h10 with ⟨_, b⟩ | ⟨b, _⟩
                · exact b
                · omega
              · intro e; rcases h10 with ⟨b, _⟩ | ⟨_, b⟩
                · exact b
                · exact absurd e b
            refine x_if_eq (tgt := 114) dX2_execute_106 (by decide) ⟨by omega, by omega⟩ (fun c12 => ?_) (fun c12 => ?_)
            · refine x_bipush (119) dX2_execute_114 rfl ?_
              refine x_puti (k := 6) (kI := 6) dX2_execute_116 fw2_31 k_10 rfl ⟨by decide, by decide⟩ (iZ_char (by omega) (by omega)) (iZ_charF (by omega) (by omega)) rfl ?_
              refine x_vret dX2_execute_119 rfl ?_
              first | (exfalso; omega) | exact ⟨rfl, EXP.fin hR hQ (by omega) (by omega) (by omega) (by right; exact ⟨rfl, fun e => by have := hxp.mpr e; omega⟩)⟩
            · refine x_bipush (111) dX2_execute_109 rfl ?_
              refine x_goto (tgt := 116) dX2_execute_111 (by decide) ?_
              refine x_puti (k := 6) (kI := 6) dX2_execute_116 fw2_31 k_10 rfl ⟨by decide, by decide⟩ (iZ_char (by omega) (by omega)) (iZ_charF (by omega) (by omega)) rfl ?_
              refine x_vret dX2_execute_119 rfl ?_
              first | (exfalso; omega) | exact ⟨rfl, EXP.fin hR hQ (by omega) (by omega) (by omega) (by left; exact ⟨rfl, hxp.mp (by omega)⟩)⟩
        · refine x_aload_n 0 dX2_execute_64 rfl rfl ?_
          refine x_geti (k := 4) (kI := 4) dX2_execute_65 fl2_25 k_10 rfl rfl (fun ⟨a13, a13'⟩ => ?_)
          have e14 : M1 10 4 = s 4 0 := z4
          simp only [e14] at a13 a13' ⊢
          refine x_aload_n 1 dX2_execute_68 rfl rfl ?_
          refine x_geti (k := 3) (kI := 3) dX2_execute_69 fl2_38 kp rfl rfl (fun ⟨a15, a15'⟩ => ?_)
          have e16 : M1 pr 3 = M pr 3 := (hR.rd (by omega))
          simp only [e16] at a15 a15' ⊢
          refine x_icmp_ge (tgt := 84) dX2_execute_72 (by decide) ⟨by omega, by omega⟩ ⟨by omega, by omega⟩ (fun c17 => ?_) (fun c17 => ?_)
          · refine x_aload_n 0 dX2_execute_84 rfl rfl ?_
            refine x_geti (k := 6) (kI := 6) dX2_execute_85 fl2_31 k_10 rfl rfl (fun ⟨a18, a18'⟩ => ?_)
            refine x_bipush (45) dX2_execute_88 rfl ?_
            refine x_icmp_ne (tgt := 119) dX2_execute_90 (by decide) ⟨by omega, by omega⟩ ⟨by decide, by decide⟩ (fun c19 => ?_) (fun c19 => ?_)
            · refine x_vret dX2_execute_119 rfl ?_
              first | (exfalso; omega) | exact ⟨rfl, EXP.of hR hQ (by omega) (by omega)⟩
            · refine x_aload_n 0 dX2_execute_93 rfl rfl ?_
              refine x_aload_n 2 dX2_execute_94 rfl rfl ?_
              refine x_aload_n 0 dX2_execute_95 rfl rfl ?_
              refine x_getr (k := 1) (d := 2) dX2_execute_96 fl2_15 k_10 rfl (fun k20 => ?_)
              have k20 : isK 20 6 12 := k20
              show Ok g mX2_execute (rmd 2) (FQ g (pV (fun M' => EXP M pr nu lim M'))) 99 [(0, rv g 10), (1, rv g pr), (2, rv g nu), (3, iv lim), (4, iv i)] [rv g 12, rv g nu, rv g 10] M1
              refine x_aload_n 0 dX2_execute_99 rfl rfl ?_
              refine x_geti (k := 2) (kI := 2) dX2_execute_100 fl2_18 k_10 rfl rfl (fun ⟨a21, a21'⟩ => ?_)
              have e22 : M1 10 2 = s 2 0 := z2
              simp only [e22] at a21 a21' ⊢
              refine x_callVIP (as := [rv g 12, iv (s 2 0)]) (rest := [rv g 10]) dX2_execute_103 vl2_47 kn (c_X3_isExpected g M1 nu (s 2 0) kn (by omega) (by omega) (by rw [hR.rd (by omega)]; omega) (by rw [hR.rd (by omega)]; omega)) rfl rfl (Nat.le_of_ble_eq_true rfl) ⟨Nat.le_of_ble_eq_true rfl, Nat.le_of_ble_eq_true rfl⟩ (fun z23 h24 => ?_)
              have hxp : z23 = 1 ↔ XPa M nu s := by
                have hq : (s 2 0 = M1 nu 3 ∧ ∀ k, 0 ≤ k → k < s 2 0 → M1 12 k = M1 (nu + 2) k) ↔ XPa M nu s := by
                  unfold XPa
                  rw [hR.rd (o := nu) (by omega)]
                  refine and_congr_right fun _ => ⟨fun h j j0 j1 => ?_, fun h j j0 j1 => ?_⟩
                  · have h9 := h j j0 j1
                    rw [zo j j0 j1, hR.rd (by omega)] at h9
                    exact h9
                  · rw [zo j j0 j1, hR.rd (by omega)]
                    exact h j j0 j1
                rw [← hq]
                constructor
                · intro e; rcases h24 with ⟨_, b⟩ | ⟨b, _⟩
                  · exact b
                  · omega
                · intro e; rcases h24 with ⟨b, _⟩ | ⟨_, b⟩
                  · exact b
                  · exact absurd e b
              refine x_if_eq (tgt := 114) dX2_execute_106 (by decide) ⟨by omega, by omega⟩ (fun c26 => ?_) (fun c26 => ?_)
              · refine x_bipush (119) dX2_execute_114 rfl ?_
                refine x_puti (k := 6) (kI := 6) dX2_execute_116 fw2_31 k_10 rfl ⟨by decide, by decide⟩ (iZ_char (by omega) (by omega)) (iZ_charF (by omega) (by omega)) rfl ?_
                refine x_vret dX2_execute_119 rfl ?_
                first | (exfalso; omega) | exact ⟨rfl, EXP.fin hR hQ (by omega) (by omega) (by omega) (by right; exact ⟨rfl, fun e => by have := hxp.mpr e; omega⟩)⟩
              · refine x_bipush (111) dX2_execute_109 rfl ?_
                refine x_goto (tgt := 116) dX2_execute_111 (by decide) ?_
                refine x_puti (k := 6) (kI := 6) dX2_execute_116 fw2_31 k_10 rfl ⟨by decide, by decide⟩ (iZ_char (by omega) (by omega)) (iZ_charF (by omega) (by omega)) rfl ?_
                refine x_vret dX2_execute_119 rfl ?_
                first | (exfalso; omega) | exact ⟨rfl, EXP.fin hR hQ (by omega) (by omega) (by omega) (by left; exact ⟨rfl, hxp.mp (by omega)⟩)⟩
          · refine x_aload_n 0 dX2_execute_75 rfl rfl ?_
            refine x_bipush (116) dX2_execute_76 rfl ?_
            refine x_puti (k := 6) (kI := 6) dX2_execute_78 fw2_31 k_10 rfl ⟨by decide, by decide⟩ (iZ_char (by omega) (by omega)) (iZ_charF (by omega) (by omega)) rfl ?_
            refine x_goto (tgt := 119) dX2_execute_81 (by decide) ?_
            refine x_vret dX2_execute_119 rfl ?_
            first | (exfalso; omega) | exact ⟨rfl, EXP.lim hR hQ (by omega) (by omega) (by omega) (by omega)⟩
      · refine x_aload_n 0 dX2_execute_13 rfl rfl ?_
        refine x_geti (k := 6) (kI := 6) dX2_execute_14 fl2_31 k_10 rfl rfl (fun ⟨a27, a27'⟩ => ?_)
        refine x_bipush (45) dX2_execute_17 rfl ?_
        refine x_icmp_ne (tgt := 55) dX2_execute_19 (by decide) ⟨by omega, by omega⟩ ⟨by decide, by decide⟩ (fun c28 => ?_) (fun c28 => ?_)
        · refine x_aload_n 0 dX2_execute_55 rfl rfl ?_
          refine x_geti (k := 6) (kI := 6) dX2_execute_56 fl2_31 k_10 rfl rfl (fun ⟨a29, a29'⟩ => ?_)
          refine x_bipush (45) dX2_execute_59 rfl ?_
          refine x_icmp_ne (tgt := 84) dX2_execute_61 (by decide) ⟨by omega, by omega⟩ ⟨by decide, by decide⟩ (fun c30 => ?_) (fun c30 => ?_)
          · refine x_aload_n 0 dX2_execute_84 rfl rfl ?_
            refine x_geti (k := 6) (kI := 6) dX2_execute_85 fl2_31 k_10 rfl rfl (fun ⟨a31, a31'⟩ => ?_)
            refine x_bipush (45) dX2_execute_88 rfl ?_
            refine x_icmp_ne (tgt := 119) dX2_execute_90 (by decide) ⟨by omega, by omega⟩ ⟨by decide, by decide⟩ (fun c32 => ?_) (fun c32 => ?_)
            · refine x_vret dX2_execute_119 rfl ?_
              first | (exfalso; omega) | exact ⟨rfl, EXP.of hR hQ (by omega) (by omega)⟩
            · refine x_aload_n 0 dX2_execute_93 rfl rfl ?_
              refine x_aload_n 2 dX2_execute_94 rfl rfl ?_
              refine x_aload_n 0 dX2_execute_95 rfl rfl ?_
              refine x_getr (k := 1) (d := 2) dX2_execute_96 fl2_15 k_10 rfl (fun k33 => ?_)
              have k33 : isK 20 6 12 := k33
              show Ok g mX2_execute (rmd 2) (FQ g (pV (fun M' => EXP M pr nu lim M'))) 99 [(0, rv g 10), (1, rv g pr), (2, rv g nu), (3, iv lim), (4, iv i)] [rv g 12, rv g nu, rv g 10] M1
              refine x_aload_n 0 dX2_execute_99 rfl rfl ?_
              refine x_geti (k := 2) (kI := 2) dX2_execute_100 fl2_18 k_10 rfl rfl (fun ⟨a34, a34'⟩ => ?_)
              have e35 : M1 10 2 = s 2 0 := z2
              simp only [e35] at a34 a34' ⊢
              refine x_callVIP (as := [rv g 12, iv (s 2 0)]) (rest := [rv g 10]) dX2_execute_103 vl2_47 kn (c_X3_isExpected g M1 nu (s 2 0) kn (by omega) (by omega) (by rw [hR.rd (by omega)]; omega) (by rw [hR.rd (by omega)]; omega)) rfl rfl (Nat.le_of_ble_eq_true rfl) ⟨Nat.le_of_ble_eq_true rfl, Nat.le_of_ble_eq_true rfl⟩ (fun z36 h37 => ?_)
              have hxp : z36 = 1 ↔ XPa M nu s := by
                have hq : (s 2 0 = M1 nu 3 ∧ ∀ k, 0 ≤ k → k < s 2 0 → M1 12 k = M1 (nu + 2) k) ↔ XPa M nu s := by
                  unfold XPa
                  rw [hR.rd (o := nu) (by omega)]
                  refine and_congr_right fun _ => ⟨fun h j j0 j1 => ?_, fun h j j0 j1 => ?_⟩
                  · have h9 := h j j0 j1
                    rw [zo j j0 j1, hR.rd (by omega)] at h9
                    exact h9
                  · rw [zo j j0 j1, hR.rd (by omega)]
                    exact h j j0 j1
                rw [← hq]
                constructor
                · intro e; rcases h37 with ⟨_, b⟩ | ⟨b, _⟩
                  · exact b
                  · omega
                · intro e; rcases h37 with ⟨b, _⟩ | ⟨_, b⟩
                  · exact b
                  · exact absurd e b
              refine x_if_eq (tgt := 114) dX2_execute_106 (by decide) ⟨by omega, by omega⟩ (fun c39 => ?_) (fun c39 => ?_)
              · refine x_bipush (119) dX2_execute_114 rfl ?_
                refine x_puti (k := 6) (kI := 6) dX2_execute_116 fw2_31 k_10 rfl ⟨by decide, by decide⟩ (iZ_char (by omega) (by omega)) (iZ_charF (by omega) (by omega)) rfl ?_
                refine x_vret dX2_execute_119 rfl ?_
                first | (exfalso; omega) | exact ⟨rfl, EXP.fin hR hQ (by omega) (by omega) (by omega) (by right; exact ⟨rfl, fun e => by have := hxp.mpr e; omega⟩)⟩
              · refine x_bipush (111) dX2_execute_109 rfl ?_
                refine x_goto (tgt := 116) dX2_execute_111 (by decide) ?_
                refine x_puti (k := 6) (kI := 6) dX2_execute_116 fw2_31 k_10 rfl ⟨by decide, by decide⟩ (iZ_char (by omega) (by omega)) (iZ_charF (by omega) (by omega)) rfl ?_
                refine x_vret dX2_execute_119 rfl ?_
                first | (exfalso; omega) | exact ⟨rfl, EXP.fin hR hQ (by omega) (by omega) (by omega) (by left; exact ⟨rfl, hxp.mp (by omega)⟩)⟩
          · refine x_aload_n 0 dX2_execute_64 rfl rfl ?_
            refine x_geti (k := 4) (kI := 4) dX2_execute_65 fl2_25 k_10 rfl rfl (fun ⟨a40, a40'⟩ => ?_)
            have e41 : M1 10 4 = s 4 0 := z4
            simp only [e41] at a40 a40' ⊢
            refine x_aload_n 1 dX2_execute_68 rfl rfl ?_
            refine x_geti (k := 3) (kI := 3) dX2_execute_69 fl2_38 kp rfl rfl (fun ⟨a42, a42'⟩ => ?_)
            have e43 : M1 pr 3 = M pr 3 := (hR.rd (by omega))
            simp only [e43] at a42 a42' ⊢
            refine x_icmp_ge (tgt := 84) dX2_execute_72 (by decide) ⟨by omega, by omega⟩ ⟨by omega, by omega⟩ (fun c44 => ?_) (fun c44 => ?_)
            · refine x_aload_n 0 dX2_execute_84 rfl rfl ?_
              refine x_geti (k := 6) (kI := 6) dX2_execute_85 fl2_31 k_10 rfl rfl (fun ⟨a45, a45'⟩ => ?_)
              refine x_bipush (45) dX2_execute_88 rfl ?_
              refine x_icmp_ne (tgt := 119) dX2_execute_90 (by decide) ⟨by omega, by omega⟩ ⟨by decide, by decide⟩ (fun c46 => ?_) (fun c46 => ?_)
              · refine x_vret dX2_execute_119 rfl ?_
                first | (exfalso; omega) | exact ⟨rfl, EXP.of hR hQ (by omega) (by omega)⟩
              · refine x_aload_n 0 dX2_execute_93 rfl rfl ?_
                refine x_aload_n 2 dX2_execute_94 rfl rfl ?_
                refine x_aload_n 0 dX2_execute_95 rfl rfl ?_
                refine x_getr (k := 1) (d := 2) dX2_execute_96 fl2_15 k_10 rfl (fun k47 => ?_)
                have k47 : isK 20 6 12 := k47
                show Ok g mX2_execute (rmd 2) (FQ g (pV (fun M' => EXP M pr nu lim M'))) 99 [(0, rv g 10), (1, rv g pr), (2, rv g nu), (3, iv lim), (4, iv i)] [rv g 12, rv g nu, rv g 10] M1
                refine x_aload_n 0 dX2_execute_99 rfl rfl ?_
                refine x_geti (k := 2) (kI := 2) dX2_execute_100 fl2_18 k_10 rfl rfl (fun ⟨a48, a48'⟩ => ?_)
                have e49 : M1 10 2 = s 2 0 := z2
                simp only [e49] at a48 a48' ⊢
                refine x_callVIP (as := [rv g 12, iv (s 2 0)]) (rest := [rv g 10]) dX2_execute_103 vl2_47 kn (c_X3_isExpected g M1 nu (s 2 0) kn (by omega) (by omega) (by rw [hR.rd (by omega)]; omega) (by rw [hR.rd (by omega)]; omega)) rfl rfl (Nat.le_of_ble_eq_true rfl) ⟨Nat.le_of_ble_eq_true rfl, Nat.le_of_ble_eq_true rfl⟩ (fun z50 h51 => ?_)
                have hxp : z50 = 1 ↔ XPa M nu s := by
                  have hq : (s 2 0 = M1 nu 3 ∧ ∀ k, 0 ≤ k → k < s 2 0 → M1 12 k = M1 (nu + 2) k) ↔ XPa M nu s := by
                    unfold XPa
                    rw [hR.rd (o := nu) (by omega)]
                    refine and_congr_right fun _ => ⟨fun h j j0 j1 => ?_, fun h j j0 j1 => ?_⟩
                    · have h9 := h j j0 j1
                      rw [zo j j0 j1, hR.rd (by omega)] at h9
                      exact h9
                    · rw [zo j j0 j1, hR.rd (by omega)]
                      exact h j j0 j1
                  rw [← hq]
                  constructor
                  · intro e; rcases h51 with ⟨_, b⟩ | ⟨b, _⟩
                    · exact b
                    · omega
                  · intro e; rcases h51 with ⟨b, _⟩ | ⟨_, b⟩
                    · exact b
                    · exact absurd e b
                refine x_if_eq (tgt := 114) dX2_execute_106 (by decide) ⟨by omega, by omega⟩ (fun c53 => ?_) (fun c53 => ?_)
                · refine x_bipush (119) dX2_execute_114 rfl ?_
                  refine x_puti (k := 6) (kI := 6) dX2_execute_116 fw2_31 k_10 rfl ⟨by decide, by decide⟩ (iZ_char (by omega) (by omega)) (iZ_charF (by omega) (by omega)) rfl ?_
                  refine x_vret dX2_execute_119 rfl ?_
                  first | (exfalso; omega) | exact ⟨rfl, EXP.fin hR hQ (by omega) (by omega) (by omega) (by right; exact ⟨rfl, fun e => by have := hxp.mpr e; omega⟩)⟩
                · refine x_bipush (111) dX2_execute_109 rfl ?_
                  refine x_goto (tgt := 116) dX2_execute_111 (by decide) ?_
                  refine x_puti (k := 6) (kI := 6) dX2_execute_116 fw2_31 k_10 rfl ⟨by decide, by decide⟩ (iZ_char (by omega) (by omega)) (iZ_charF (by omega) (by omega)) rfl ?_
                  refine x_vret dX2_execute_119 rfl ?_
                  first | (exfalso; omega) | exact ⟨rfl, EXP.fin hR hQ (by omega) (by omega) (by omega) (by left; exact ⟨rfl, hxp.mp (by omega)⟩)⟩
            · refine x_aload_n 0 dX2_execute_75 rfl rfl ?_
              refine x_bipush (116) dX2_execute_76 rfl ?_
              refine x_puti (k := 6) (kI := 6) dX2_execute_78 fw2_31 k_10 rfl ⟨by decide, by decide⟩ (iZ_char (by omega) (by omega)) (iZ_charF (by omega) (by omega)) rfl ?_
              refine x_goto (tgt := 119) dX2_execute_81 (by decide) ?_
              refine x_vret dX2_execute_119 rfl ?_
              first | (exfalso; omega) | exact ⟨rfl, EXP.lim hR hQ (by omega) (by omega) (by omega) (by omega)⟩
        · refine x_aload_n 0 dX2_execute_22 rfl rfl ?_
          refine x_geti (k := 4) (kI := 4) dX2_execute_23 fl2_25 k_10 rfl rfl (fun ⟨a54, a54'⟩ => ?_)
          have e55 : M1 10 4 = s 4 0 := z4
          simp only [e55] at a54 a54' ⊢
          refine x_aload_n 1 dX2_execute_26 rfl rfl ?_
          refine x_geti (k := 3) (kI := 3) dX2_execute_27 fl2_38 kp rfl rfl (fun ⟨a56, a56'⟩ => ?_)
          have e57 : M1 pr 3 = M pr 3 := (hR.rd (by omega))
          simp only [e57] at a56 a56' ⊢
          refine x_icmp_ge (tgt := 55) dX2_execute_30 (by decide) ⟨by omega, by omega⟩ ⟨by omega, by omega⟩ (fun c58 => ?_) (fun c58 => ?_)
          · refine x_aload_n 0 dX2_execute_55 rfl rfl ?_
            refine x_geti (k := 6) (kI := 6) dX2_execute_56 fl2_31 k_10 rfl rfl (fun ⟨a59, a59'⟩ => ?_)
            refine x_bipush (45) dX2_execute_59 rfl ?_
            refine x_icmp_ne (tgt := 84) dX2_execute_61 (by decide) ⟨by omega, by omega⟩ ⟨by decide, by decide⟩ (fun c60 => ?_) (fun c60 => ?_)
            · refine x_aload_n 0 dX2_execute_84 rfl rfl ?_
              refine x_geti (k := 6) (kI := 6) dX2_execute_85 fl2_31 k_10 rfl rfl (fun ⟨a61, a61'⟩ => ?_)
              refine x_bipush (45) dX2_execute_88 rfl ?_
              refine x_icmp_ne (tgt := 119) dX2_execute_90 (by decide) ⟨by omega, by omega⟩ ⟨by decide, by decide⟩ (fun c62 => ?_) (fun c62 => ?_)
              · refine x_vret dX2_execute_119 rfl ?_
                first | (exfalso; omega) | exact ⟨rfl, EXP.of hR hQ (by omega) (by omega)⟩
              · refine x_aload_n 0 dX2_execute_93 rfl rfl ?_
                refine x_aload_n 2 dX2_execute_94 rfl rfl ?_
                refine x_aload_n 0 dX2_execute_95 rfl rfl ?_
                refine x_getr (k := 1) (d := 2) dX2_execute_96 fl2_15 k_10 rfl (fun k63 => ?_)
                have k63 : isK 20 6 12 := k63
                show Ok g mX2_execute (rmd 2) (FQ g (pV (fun M' => EXP M pr nu lim M'))) 99 [(0, rv g 10), (1, rv g pr), (2, rv g nu), (3, iv lim), (4, iv i)] [rv g 12, rv g nu, rv g 10] M1
                refine x_aload_n 0 dX2_execute_99 rfl rfl ?_
                refine x_geti (k := 2) (kI := 2) dX2_execute_100 fl2_18 k_10 rfl rfl (fun ⟨a64, a64'⟩ => ?_)
                have e65 : M1 10 2 = s 2 0 := z2
                simp only [e65] at a64 a64' ⊢
                refine x_callVIP (as := [rv g 12, iv (s 2 0)]) (rest := [rv g 10]) dX2_execute_103 vl2_47 kn (c_X3_isExpected g M1 nu (s 2 0) kn (by omega) (by omega) (by rw [hR.rd (by omega)]; omega) (by rw [hR.rd (by omega)]; omega)) rfl rfl (Nat.le_of_ble_eq_true rfl) ⟨Nat.le_of_ble_eq_true rfl, Nat.le_of_ble_eq_true rfl⟩ (fun z66 h67 => ?_)
                have hxp : z66 = 1 ↔ XPa M nu s := by
                  have hq : (s 2 0 = M1 nu 3 ∧ ∀ k, 0 ≤ k → k < s 2 0 → M1 12 k = M1 (nu + 2) k) ↔ XPa M nu s := by
                    unfold XPa
                    rw [hR.rd (o := nu) (by omega)]
                    refine and_congr_right fun _ => ⟨fun h j j0 j1 => ?_, fun h j j0 j1 => ?_⟩
                    · have h9 := h j j0 j1
                      rw [zo j j0 j1, hR.rd (by omega)] at h9
                      exact h9
                    · rw [zo j j0 j1, hR.rd (by omega)]
                      exact h j j0 j1
                  rw [← hq]
                  constructor
                  · intro e; rcases h67 with ⟨_, b⟩ | ⟨b, _⟩
                    · exact b
                    · omega
                  · intro e; rcases h67 with ⟨b, _⟩ | ⟨_, b⟩
                    · exact b
                    · exact absurd e b
                refine x_if_eq (tgt := 114) dX2_execute_106 (by decide) ⟨by omega, by omega⟩ (fun c69 => ?_) (fun c69 => ?_)
                · refine x_bipush (119) dX2_execute_114 rfl ?_
                  refine x_puti (k := 6) (kI := 6) dX2_execute_116 fw2_31 k_10 rfl ⟨by decide, by decide⟩ (iZ_char (by omega) (by omega)) (iZ_charF (by omega) (by omega)) rfl ?_
                  refine x_vret dX2_execute_119 rfl ?_
                  first | (exfalso; omega) | exact ⟨rfl, EXP.fin hR hQ (by omega) (by omega) (by omega) (by right; exact ⟨rfl, fun e => by have := hxp.mpr e; omega⟩)⟩
                · refine x_bipush (111) dX2_execute_109 rfl ?_
                  refine x_goto (tgt := 116) dX2_execute_111 (by decide) ?_
                  refine x_puti (k := 6) (kI := 6) dX2_execute_116 fw2_31 k_10 rfl ⟨by decide, by decide⟩ (iZ_char (by omega) (by omega)) (iZ_charF (by omega) (by omega)) rfl ?_
                  refine x_vret dX2_execute_119 rfl ?_
                  first | (exfalso; omega) | exact ⟨rfl, EXP.fin hR hQ (by omega) (by omega) (by omega) (by left; exact ⟨rfl, hxp.mp (by omega)⟩)⟩
            · refine x_aload_n 0 dX2_execute_64 rfl rfl ?_
              refine x_geti (k := 4) (kI := 4) dX2_execute_65 fl2_25 k_10 rfl rfl (fun ⟨a70, a70'⟩ => ?_)
              have e71 : M1 10 4 = s 4 0 := z4
              simp only [e71] at a70 a70' ⊢
              refine x_aload_n 1 dX2_execute_68 rfl rfl ?_
              refine x_geti (k := 3) (kI := 3) dX2_execute_69 fl2_38 kp rfl rfl (fun ⟨a72, a72'⟩ => ?_)
              have e73 : M1 pr 3 = M pr 3 := (hR.rd (by omega))
              simp only [e73] at a72 a72' ⊢
              refine x_icmp_ge (tgt := 84) dX2_execute_72 (by decide) ⟨by omega, by omega⟩ ⟨by omega, by omega⟩ (fun c74 => ?_) (fun c74 => ?_)
              · refine x_aload_n 0 dX2_execute_84 rfl rfl ?_
                refine x_geti (k := 6) (kI := 6) dX2_execute_85 fl2_31 k_10 rfl rfl (fun ⟨a75, a75'⟩ => ?_)
                refine x_bipush (45) dX2_execute_88 rfl ?_
                refine x_icmp_ne (tgt := 119) dX2_execute_90 (by decide) ⟨by omega, by omega⟩ ⟨by decide, by decide⟩ (fun c76 => ?_) (fun c76 => ?_)
                · refine x_vret dX2_execute_119 rfl ?_
                  first | (exfalso; omega) | exact ⟨rfl, EXP.of hR hQ (by omega) (by omega)⟩
                · refine x_aload_n 0 dX2_execute_93 rfl rfl ?_
                  refine x_aload_n 2 dX2_execute_94 rfl rfl ?_
                  refine x_aload_n 0 dX2_execute_95 rfl rfl ?_
                  refine x_getr (k := 1) (d := 2) dX2_execute_96 fl2_15 k_10 rfl (fun k77 => ?_)
                  have k77 : isK 20 6 12 := k77
                  show Ok g mX2_execute (rmd 2) (FQ g (pV (fun M' => EXP M pr nu lim M'))) 99 [(0, rv g 10), (1, rv g pr), (2, rv g nu), (3, iv lim), (4, iv i)] [rv g 12, rv g nu, rv g 10] M1
                  refine x_aload_n 0 dX2_execute_99 rfl rfl ?_
                  refine x_geti (k := 2) (kI := 2) dX2_execute_100 fl2_18 k_10 rfl rfl (fun ⟨a78, a78'⟩ => ?_)
                  have e79 : M1 10 2 = s 2 0 := z2
                  simp only [e79] at a78 a78' ⊢
                  refine x_callVIP (as := [rv g 12, iv (s 2 0)]) (rest := [rv g 10]) dX2_execute_103 vl2_47 kn (c_X3_isExpected g M1 nu (s 2 0) kn (by omega) (by omega) (by rw [hR.rd (by omega)]; omega) (by rw [hR.rd (by omega)]; omega)) rfl rfl (Nat.le_of_ble_eq_true rfl) ⟨Nat.le_of_ble_eq_true rfl, Nat.le_of_ble_eq_true rfl⟩ (fun z80 h81 => ?_)
                  have hxp : z80 = 1 ↔ XPa M nu s := by
                    have hq : (s 2 0 = M1 nu 3 ∧ ∀ k, 0 ≤ k → k < s 2 0 → M1 12 k = M1 (nu + 2) k) ↔ XPa M nu s := by
                      unfold XPa
                      rw [hR.rd (o := nu) (by omega)]
                      refine and_congr_right fun _ => ⟨fun h j j0 j1 => ?_, fun h j j0 j1 => ?_⟩
                      · have h9 := h j j0 j1
                        rw [zo j j0 j1, hR.rd (by omega)] at h9
                        exact h9
                      · rw [zo j j0 j1, hR.rd (by omega)]
                        exact h j j0 j1
                    rw [← hq]
                    constructor
                    · intro e; rcases h81 with ⟨_, b⟩ | ⟨b, _⟩
                      · exact b
                      · omega
                    · intro e; rcases h81 with ⟨b, _⟩ | ⟨_, b⟩
                      · exact b
                      · exact absurd e b
                  refine x_if_eq (tgt := 114) dX2_execute_106 (by decide) ⟨by omega, by omega⟩ (fun c83 => ?_) (fun c83 => ?_)
                  · refine x_bipush (119) dX2_execute_114 rfl ?_
                    refine x_puti (k := 6) (kI := 6) dX2_execute_116 fw2_31 k_10 rfl ⟨by decide, by decide⟩ (iZ_char (by omega) (by omega)) (iZ_charF (by omega) (by omega)) rfl ?_
                    refine x_vret dX2_execute_119 rfl ?_
                    first | (exfalso; omega) | exact ⟨rfl, EXP.fin hR hQ (by omega) (by omega) (by omega) (by right; exact ⟨rfl, fun e => by have := hxp.mpr e; omega⟩)⟩
                  · refine x_bipush (111) dX2_execute_109 rfl ?_
                    refine x_goto (tgt := 116) dX2_execute_111 (by decide) ?_
                    refine x_puti (k := 6) (kI := 6) dX2_execute_116 fw2_31 k_10 rfl ⟨by decide, by decide⟩ (iZ_char (by omega) (by omega)) (iZ_charF (by omega) (by omega)) rfl ?_
                    refine x_vret dX2_execute_119 rfl ?_
                    first | (exfalso; omega) | exact ⟨rfl, EXP.fin hR hQ (by omega) (by omega) (by omega) (by left; exact ⟨rfl, hxp.mp (by omega)⟩)⟩
              · refine x_aload_n 0 dX2_execute_75 rfl rfl ?_
                refine x_bipush (116) dX2_execute_76 rfl ?_
                refine x_puti (k := 6) (kI := 6) dX2_execute_78 fw2_31 k_10 rfl ⟨by decide, by decide⟩ (iZ_char (by omega) (by omega)) (iZ_charF (by omega) (by omega)) rfl ?_
                refine x_goto (tgt := 119) dX2_execute_81 (by decide) ?_
                refine x_vret dX2_execute_119 rfl ?_
                first | (exfalso; omega) | exact ⟨rfl, EXP.lim hR hQ (by omega) (by omega) (by omega) (by omega)⟩
          · refine x_aload_n 0 dX2_execute_33 rfl rfl ?_
            refine x_dup dX2_execute_34 rfl ?_
            refine x_geti (k := 5) (kI := 5) dX2_execute_35 fl2_28 k_10 rfl rfl (fun ⟨a84, a84'⟩ => ?_)
            have e85 : M1 10 5 = s 5 0 := z5
            simp only [e85] at a84 a84' ⊢
            refine x_iconst (1) dX2_execute_38 rfl ?_
            refine x_iadd dX2_execute_39 ?_
            refine x_puti (k := 5) (kI := 5) dX2_execute_40 fw2_28 k_10 rfl ⟨by omega, by omega⟩ rfl rfl rfl ?_
            refine x_aload_n 0 dX2_execute_43 rfl rfl ?_
            refine x_aload_n 1 dX2_execute_44 rfl rfl ?_
            refine x_aload_n 2 dX2_execute_45 rfl rfl ?_
            refine x_callVV (as := [rv g pr, rv g nu]) (rest := []) dX2_execute_46 vl2_43 k_10 (c_X2_doNextStep g (up M1 10 5 ((s 5 0) + 1)) M s pr nu (hR.c (o := 5) (s 5 0 + 1) (by omega)) hp hn (by omega) (by omega) (by omega)) rfl rfl (Nat.le_of_ble_eq_true rfl) ⟨Nat.le_of_ble_eq_true rfl, Nat.le_of_ble_eq_true rfl⟩ (fun M88 h87 => ?_)
            have hr8 := h87
            have g4 := p4 (s 4 0) (by omega) (by omega)
            unfold SOK at g4
            have r6 := pst_6 (ln := M pr 3) (L := fun k => M (pr + 1) k) (A := fun k => M (pr + 2) k) (B := fun k => M (pr + 3) k) (inN := M nu 2) (inp := fun k => M (nu + 1) k) (s := s) (by omega)
            have r5 := pst_5 (ln := M pr 3) (L := fun k => M (pr + 1) k) (A := fun k => M (pr + 2) k) (B := fun k => M (pr + 3) k) (inN := M nu 2) (inp := fun k => M (nu + 1) k) (s := s)
            have r4 := pst_4 (ln := M pr 3) (L := fun k => M (pr + 1) k) (A := fun k => M (pr + 2) k) (B := fun k => M (pr + 3) k) (inN := M nu 2) (inp := fun k => M (nu + 1) k) (s := s) (by show M (pr + 1) (s 4 0) = 106 ∨ M (pr + 1) (s 4 0) = 110 → 0 ≤ M (pr + 3) (s 4 0); omega) (by omega) (by omega)
            have r3 := pst_3 (ln := M pr 3) (L := fun k => M (pr + 1) k) (A := fun k => M (pr + 2) k) (B := fun k => M (pr + 3) k) (inN := M nu 2) (inp := fun k => M (nu + 1) k) (s := s) (by omega) (by omega)
            refine x_iinc (z := i) (lv' := [(4, iv (i + 1)), (0, rv g 10), (1, rv g pr), (2, rv g nu), (3, iv lim)]) 4 dX2_execute_49 rfl (Nat.le_of_ble_eq_true rfl) rfl ?_
            refine x_goto (tgt := 7) dX2_execute_52 (by decide) ?_
            refine x_sub [1, 2, 3, 4, 0] rfl ?_
            exact ih_7 _ ((pstep (M pr 3) (fun k => M (pr + 1) k) (fun k => M (pr + 2) k) (fun k => M (pr + 3) k) (M nu 2) (fun k => M (nu + 1) k) s)) _ (by exact hr8) (by exact hQ.nx (by omega) (by omega) (by omega)) (by omega) (by omega) (by omega)
  refine x_aload_n 0 dX2_execute_0 rfl rfl ?_
  refine x_callVV (as := []) (rest := []) dX2_execute_1 vl2_35 k_10 (c_X2_reset g M) rfl rfl (Nat.le_of_ble_eq_true rfl) ⟨Nat.le_of_ble_eq_true rfl, Nat.le_of_ble_eq_true rfl⟩ (fun M91 h90 => ?_)
  have hr9 := h90
  refine x_iconst (0) dX2_execute_4 rfl ?_
  refine x_istore (lv' := [(4, iv 0), (0, rv g 10), (1, rv g pr), (2, rv g nu), (3, iv lim)]) dX2_execute_5 (Nat.le_of_ble_eq_true rfl) rfl ?_
  refine x_sub [1, 2, 3, 4, 0] rfl ?_
  exact h_7 _ _ (ps0) _ (by exact hr9) (by exact QA.ini _ _ _ _) (by exact ⟨rfl, by omega, by omega, Int.le_refl 0, p1, Int.le_refl 0, n1⟩) (by exact Or.inl rfl) (Nat.lt_succ_self _)
