set_option maxHeartbeats 600000 in
set_option maxRecDepth 100000 in
theorem c_X9_judges (g : GG) (M : Mem) (r t : Int) (I : RB0 M) (r0 : 0 ≤ r) (r1 : r < M 468 18) (t0 : 0 ≤ t) (t1 : t < (M 476 ((M 482 (r))))) : Ct g yX9_judges cX9_judges 11 none 1 [rv g 468, iv r, iv t] M (pV (fun M' => JP M r t M')) := by
  refine ct_of (by decide +kernel) (Nat.le_of_ble_eq_true rfl) ?_
  show Ok g mX9_judges (rmd 1) (FQ g (pV (fun M' => JP M r t M'))) 0 [(0, rv g 468), (1, iv r), (2, iv t)] [] M
  have i0 := I.rng
  have i1 := I.run r r0 r1
  have i2 := I.prob (M 482 r) (by omega) (by omega)
  have i3 := I.tst (M 482 r) t (by omega) (by omega) t0 t1
  have h_61 : ∀ (n_61 : Nat) (M1 : Mem) (s : Mem) (w : Int) (a : Int) (k : Int), (RelB M r t M1 s) → (s 6 0 = w ∧ s 4 0 = a ∧ s 3 0 = k) → (0 ≤ a ∧ a ≤ M 484 r ∧ 0 ≤ k ∧ k ≤ M 478 (6 * M 482 r + t) ∧ 0 ≤ s 5 0 ∧ s 5 0 ≤ M 475 (M 482 r)) → (w = 32 ∨ w = 111 ∨ w = 119 ∨ w = 114 ∨ w = 108 ∨ w = 116) → (QW M r t s w) → (M 475 (M 482 r) - s 5 0 + (140 - w) / 100).toNat < n_61 → Ok g mX9_judges (rmd 1) (FQ g (pV (fun M' => JP M r t M'))) 61 [(0, rv g 468), (1, iv r), (2, iv t), (3, iv w), (4, iv a), (5, iv k), (6, iv (M 482 r))] [] M1 := by
    intro n_61
    induction n_61 with
    | zero => intro M1 s w a k q0 q1 q2 q3 q4 hn_61; exact absurd hn_61 (Nat.not_lt_zero _)
    | succ n_61 ih_61 =>
      intro M1 s w a k q0 q1 q2 q3 q4 hn_61
      obtain ⟨e1, e2, e3⟩ := q1
      obtain ⟨x1, x2, x3, x4, x5, x6, x7⟩ := id q0
      refine x_iload_n 3 dX9_judges_61 rfl rfl ?_
      refine x_bipush (32) dX9_judges_62 rfl ?_
      refine x_icmp_ne (tgt := 391) dX9_judges_64 (by decide) ⟨by omega, by omega⟩ ⟨by decide, by decide⟩ (fun c1 => ?_) (fun c1 => ?_)
      · refine x_aload_n 0 dX9_judges_391 rfl rfl ?_
        refine x_getr (k := 26) (d := 20) dX9_judges_392 fl9_68 k_468 rfl (fun k2 => ?_)
        have k2 : isK 21 240 488 := k2
        show Ok g mX9_judges (rmd 1) (FQ g (pV (fun M' => JP M r t M'))) 395 [(0, rv g 468), (1, iv r), (2, iv t), (3, iv w), (4, iv a), (5, iv k), (6, iv (M 482 r))] [rv g 488] M1
        refine x_bipush (6) dX9_judges_395 rfl ?_
        refine x_iload_n 1 dX9_judges_397 rfl rfl ?_
        refine x_imul dX9_judges_398 ?_
        refine x_iload_n 2 dX9_judges_399 rfl rfl ?_
        refine x_iadd dX9_judges_400 ?_
        refine x_iload_n 3 dX9_judges_401 rfl rfl ?_
        refine x_cast dX9_judges_402 k2 (by omega) (by omega) (by decide) ⟨by omega, by omega⟩ (by omega) (by omega) ?_
        refine x_vret dX9_judges_403 rfl ?_
        refine ⟨rfl, ?_⟩
        obtain ⟨y1, y2, y3, y4⟩ := q4.1 (by omega)
        refine ⟨fun o j h1 h2 => ?_, ?_, fun j j0 j1 => ?_, ?_, ?_, by omega, by omega, by omega, by omega, ?_⟩
        · rw [up_n h2]; exact x1 o j h1
        · rw [up_o (by omega)]; omega
        · rw [up_o (by omega), x4 j j0 (by omega)]; exact y4 j
        · rw [up_o (by omega)]; omega
        · rw [up_s]; exact y1
        · rw [up_s]; omega
      · refine x_iload 4 dX9_judges_67 rfl ?_
        refine x_aload_n 0 dX9_judges_69 rfl rfl ?_
        refine x_getr (k := 22) (d := 16) dX9_judges_70 fl9_56 k_468 rfl (fun k3 => ?_)
        have k3 : isK 20 40 484 := k3
        show Ok g mX9_judges (rmd 1) (FQ g (pV (fun M' => JP M r t M'))) 73 [(0, rv g 468), (1, iv r), (2, iv t), (3, iv w), (4, iv a), (5, iv k), (6, iv (M 482 r))] [rv g 484, iv a] M1
        refine x_iload_n 1 dX9_judges_73 rfl rfl ?_
        refine x_iald dX9_judges_74 k3 (by omega) (by omega) (by decide) (fun ⟨a4, a4'⟩ => ?_)
        have e5 : M1 484 r = M 484 r := (q0.rd (by omega))
        simp only [e5] at a4 a4' ⊢
        refine x_icmp_ne (tgt := 98) dX9_judges_75 (by decide) ⟨by omega, by omega⟩ ⟨by omega, by omega⟩ (fun c6 => ?_) (fun c6 => ?_)
        · refine x_aload_n 0 dX9_judges_98 rfl rfl ?_
          refine x_getr (k := 27) (d := 21) dX9_judges_99 fl9_71 k_468 rfl (fun k7 => ?_)
          have k7 : isK 20 240 489 := k7
          show Ok g mX9_judges (rmd 1) (FQ g (pV (fun M' => JP M r t M'))) 102 [(0, rv g 468), (1, iv r), (2, iv t), (3, iv w), (4, iv a), (5, iv k), (6, iv (M 482 r))] [rv g 489] M1
          refine x_bipush (6) dX9_judges_102 rfl ?_
          refine x_iload_n 1 dX9_judges_104 rfl rfl ?_
          refine x_imul dX9_judges_105 ?_
          refine x_iload_n 2 dX9_judges_106 rfl rfl ?_
          refine x_iadd dX9_judges_107 ?_
          refine x_iald dX9_judges_108 k7 (by omega) (by omega) (by decide) (fun ⟨a8, a8'⟩ => ?_)
          have e9 : M1 489 ((6 * r) + t) = s 5 0 := x5
          simp only [e9] at a8 a8' ⊢
          refine x_aload_n 0 dX9_judges_109 rfl rfl ?_
          refine x_getr (k := 11) (d := 7) dX9_judges_110 fl9_29 k_468 rfl (fun k10 => ?_)
          have k10 : isK 20 5 475 := k10
          show Ok g mX9_judges (rmd 1) (FQ g (pV (fun M' => JP M r t M'))) 113 [(0, rv g 468), (1, iv r), (2, iv t), (3, iv w), (4, iv a), (5, iv k), (6, iv (M 482 r))] [rv g 475, iv (s 5 0)] M1
          refine x_iload 6 dX9_judges_113 rfl ?_
          refine x_iald dX9_judges_115 k10 (by omega) (by omega) (by decide) (fun ⟨a11, a11'⟩ => ?_)
          have e12 : M1 475 (M 482 r) = M 475 (M 482 r) := (q0.rd (by omega))
          simp only [e12] at a11 a11' ⊢
          refine x_icmp_ne (tgt := 125) dX9_judges_116 (by decide) ⟨by omega, by omega⟩ ⟨by omega, by omega⟩ (fun c13 => ?_) (fun c13 => ?_)
          · refine x_aload_n 0 dX9_judges_125 rfl rfl ?_
            refine x_getr (k := 27) (d := 21) dX9_judges_126 fl9_71 k_468 rfl (fun k14 => ?_)
            have k14 : isK 20 240 489 := k14
            show Ok g mX9_judges (rmd 1) (FQ g (pV (fun M' => JP M r t M'))) 129 [(0, rv g 468), (1, iv r), (2, iv t), (3, iv w), (4, iv a), (5, iv k), (6, iv (M 482 r))] [rv g 489] M1
            refine x_bipush (6) dX9_judges_129 rfl ?_
            refine x_iload_n 1 dX9_judges_131 rfl rfl ?_
            refine x_imul dX9_judges_132 ?_
            refine x_iload_n 2 dX9_judges_133 rfl rfl ?_
            refine x_iadd dX9_judges_134 ?_
            refine x_dup2 dX9_judges_135 rfl rfl ?_
            refine x_iald dX9_judges_136 k14 (by omega) (by omega) (by decide) (fun ⟨a15, a15'⟩ => ?_)
            have e16 : M1 489 ((6 * r) + t) = s 5 0 := x5
            simp only [e16] at a15 a15' ⊢
            refine x_iconst (1) dX9_judges_137 rfl ?_
            refine x_iadd dX9_judges_138 ?_
            have g4 := I.prg r a r0 r1 (by omega) (by omega)
            unfold SOK at g4
            refine x_iast dX9_judges_139 k14 (by omega) (by omega) (by decide) ⟨by omega, by omega⟩ ?_
            refine x_aload_n 0 dX9_judges_140 rfl rfl ?_
            refine x_getr (k := 23) (d := 17) dX9_judges_141 fl9_59 k_468 rfl (fun k17 => ?_)
            have k17 : isK 21 800 485 := k17
            show Ok g mX9_judges (rmd 1) (FQ g (pV (fun M' => JP M r t M'))) 144 [(0, rv g 468), (1, iv r), (2, iv t), (3, iv w), (4, iv a), (5, iv k), (6, iv (M 482 r))] [rv g 485] (up M1 489 ((6 * r) + t) ((s 5 0) + 1))
            refine x_bipush (20) dX9_judges_144 rfl ?_
            refine x_iload_n 1 dX9_judges_146 rfl rfl ?_
            refine x_imul dX9_judges_147 ?_
            refine x_iload 4 dX9_judges_148 rfl ?_
            refine x_iadd dX9_judges_150 ?_
            refine x_cald dX9_judges_151 k17 (by omega) (by omega) (by decide) (fun ⟨a18, a18'⟩ => ?_)
            have e19 : (up M1 489 ((6 * r) + t) ((s 5 0) + 1)) 485 ((20 * r) + a) = M 485 ((20 * r) + a) := (Eq.trans (b := M1 485 ((20 * r) + a)) (by simp (disch := omega) only [up_o, up_k]) (q0.rd (by omega)))
            simp only [e19] at a18 a18' ⊢
            refine x_istore (lv' := [(7, iv (M 485 ((20 * r) + a))), (0, rv g 468), (1, iv r), (2, iv t), (3, iv w), (4, iv a), (5, iv k), (6, iv (M 482 r))]) dX9_judges_152 (Nat.le_of_ble_eq_true rfl) rfl ?_
            refine x_aload_n 1 dX9_judges_154 rfl rfl ?_
            refine x_getr (k := 24) (d := 18) dX9_judges_155 fl9_62 k_468 rfl (fun k20 => ?_)
            have k20 : isK 20 800 486 := k20
            show Ok g mX9_judges (rmd 1) (FQ g (pV (fun M' => JP M r t M'))) 158 [(7, iv (M 485 ((20 * r) + a))), (0, rv g 468), (1, iv r), (2, iv t), (3, iv w), (4, iv a), (5, iv k), (6, iv (M 482 r))] [rv g 486] (up M1 489 ((6 * r) + t) ((s 5 0) + 1))
            refine x_bipush (20) dX9_judges_158 rfl ?_
            refine x_iload_n 2 dX9_judges_160 rfl rfl ?_
            refine x_imul dX9_judges_161 ?_
            refine x_iload 5 dX9_judges_162 rfl ?_
            refine x_iadd dX9_judges_164 ?_
            refine x_iald dX9_judges_165 k20 (by omega) (by omega) (by decide) (fun ⟨a21, a21'⟩ => ?_)
            have e22 : (up M1 489 ((6 * r) + t) ((s 5 0) + 1)) 486 ((20 * r) + a) = M 486 ((20 * r) + a) := (Eq.trans (b := M1 486 ((20 * r) + a)) (by simp (disch := omega) only [up_o, up_k]) (q0.rd (by omega)))
            simp only [e22] at a21 a21' ⊢
            refine x_istore (lv' := [(8, iv (M 486 ((20 * r) + a))), (7, iv (M 485 ((20 * r) + a))), (0, rv g 468), (1, iv r), (2, iv t), (3, iv w), (4, iv a), (5, iv k), (6, iv (M 482 r))]) dX9_judges_166 (Nat.le_of_ble_eq_true rfl) rfl ?_
            refine x_aload_n 2 dX9_judges_168 rfl rfl ?_
            refine x_getr (k := 25) (d := 19) dX9_judges_169 fl9_65 k_468 rfl (fun k23 => ?_)
            have k23 : isK 20 800 487 := k23
            show Ok g mX9_judges (rmd 1) (FQ g (pV (fun M' => JP M r t M'))) 172 [(8, iv (M 486 ((20 * r) + a))), (7, iv (M 485 ((20 * r) + a))), (0, rv g 468), (1, iv r), (2, iv t), (3, iv w), (4, iv a), (5, iv k), (6, iv (M 482 r))] [rv g 487] (up M1 489 ((6 * r) + t) ((s 5 0) + 1))
            refine x_bipush (20) dX9_judges_172 rfl ?_
            refine x_iload_n 3 dX9_judges_174 rfl rfl ?_
            refine x_imul dX9_judges_175 ?_
            refine x_iload 6 dX9_judges_176 rfl ?_
            refine x_iadd dX9_judges_178 ?_
            refine x_iald dX9_judges_179 k23 (by omega) (by omega) (by decide) (fun ⟨a24, a24'⟩ => ?_)
            have e25 : (up M1 489 ((6 * r) + t) ((s 5 0) + 1)) 487 ((20 * r) + a) = M 487 ((20 * r) + a) := (Eq.trans (b := M1 487 ((20 * r) + a)) (by simp (disch := omega) only [up_o, up_k]) (q0.rd (by omega)))
            simp only [e25] at a24 a24' ⊢
            refine x_istore (lv' := [(9, iv (M 487 ((20 * r) + a))), (8, iv (M 486 ((20 * r) + a))), (7, iv (M 485 ((20 * r) + a))), (0, rv g 468), (1, iv r), (2, iv t), (3, iv w), (4, iv a), (5, iv k), (6, iv (M 482 r))]) dX9_judges_180 (Nat.le_of_ble_eq_true rfl) rfl ?_
            refine x_iinc (z := a) (lv' := [(4, iv (a + 1)), (9, iv (M 487 ((20 * r) + a))), (8, iv (M 486 ((20 * r) + a))), (7, iv (M 485 ((20 * r) + a))), (0, rv g 468), (1, iv r), (2, iv t), (3, iv w), (5, iv k), (6, iv (M 482 r))]) 7 dX9_judges_182 rfl (Nat.le_of_ble_eq_true rfl) rfl ?_
            refine x_iload 3 dX9_judges_185 rfl ?_
            refine x_bipush (104) dX9_judges_187 rfl ?_
            refine x_icmp_ne (tgt := 203) dX9_judges_189 (by decide) ⟨by omega, by omega⟩ ⟨by decide, by decide⟩ (fun c26 => ?_) (fun c26 => ?_)
            · refine x_iload 3 dX9_judges_203 rfl ?_
              refine x_bipush (105) dX9_judges_205 rfl ?_
              refine x_icmp_ne (tgt := 263) dX9_judges_207 (by decide) ⟨by omega, by omega⟩ ⟨by decide, by decide⟩ (fun c27 => ?_) (fun c27 => ?_)
              · refine x_iload 3 dX9_judges_263 rfl ?_
                refine x_bipush (111) dX9_judges_265 rfl ?_
                refine x_icmp_ne (tgt := 287) dX9_judges_267 (by decide) ⟨by omega, by omega⟩ ⟨by decide, by decide⟩ (fun c28 => ?_) (fun c28 => ?_)
                · refine x_iload 3 dX9_judges_287 rfl ?_
                  refine x_bipush (106) dX9_judges_289 rfl ?_
                  refine x_icmp_eq (tgt := 301) dX9_judges_291 (by decide) ⟨by omega, by omega⟩ ⟨by decide, by decide⟩ (fun c29 => ?_) (fun c29 => ?_)
                  · refine x_iload 3 dX9_judges_301 rfl ?_
                    refine x_bipush (106) dX9_judges_303 rfl ?_
                    refine x_icmp_ne (tgt := 326) dX9_judges_305 (by decide) ⟨by omega, by omega⟩ ⟨by decide, by decide⟩ (fun c30 => ?_) (fun c30 => ?_)
                    · refine x_aload_n 4 dX9_judges_326 rfl rfl ?_
                      refine x_getr (k := 30) (d := 24) dX9_judges_327 fl9_80 k_468 rfl (fun k31 => ?_)
                      have k31 : isK 20 4 492 := k31
                      show Ok g mX9_judges (rmd 1) (FQ g (pV (fun M' => JP M r t M'))) 330 [(4, iv (a + 1)), (9, iv (M 487 ((20 * r) + a))), (8, iv (M 486 ((20 * r) + a))), (7, iv (M 485 ((20 * r) + a))), (0, rv g 468), (1, iv r), (2, iv t), (3, iv w), (5, iv k), (6, iv (M 482 r))] [rv g 492] (up M1 489 ((6 * r) + t) ((s 5 0) + 1))
                      refine x_iload 2 dX9_judges_330 rfl ?_
                      refine x_iald dX9_judges_332 k31 (by omega) (by omega) (by decide) (fun ⟨a32, a32'⟩ => ?_)
                      have e33 : (up M1 489 ((6 * r) + t) ((s 5 0) + 1)) 492 (M 486 ((20 * r) + a)) = s 0 (M 486 ((20 * r) + a)) := (Eq.trans (b := M1 492 (M 486 ((20 * r) + a))) (by simp (disch := omega) only [up_o, up_k]) (x2 _ (by omega) (by omega)))
                      simp only [e33] at a32 a32' ⊢
                      refine x_if_ge (tgt := 340) dX9_judges_333 (by decide) ⟨by omega, by omega⟩ (fun c34 => ?_) (fun c34 => ?_)
                      · refine x_iconst (0) dX9_judges_340 rfl ?_
                        refine x_istore (lv' := [(10, iv 0), (4, iv (a + 1)), (9, iv (M 487 ((20 * r) + a))), (8, iv (M 486 ((20 * r) + a))), (7, iv (M 485 ((20 * r) + a))), (0, rv g 468), (1, iv r), (2, iv t), (3, iv w), (5, iv k), (6, iv (M 482 r))]) dX9_judges_341 (Nat.le_of_ble_eq_true rfl) rfl ?_
                        refine x_iload 0 dX9_judges_343 rfl ?_
                        refine x_if_eq (tgt := 365) dX9_judges_345 (by decide) ⟨by decide, by decide⟩ (fun c35 => ?_) (fun c35 => ?_)
                        · refine x_iload 0 dX9_judges_365 rfl ?_
                          refine x_if_eq (tgt := 374) dX9_judges_367 (by decide) ⟨by decide, by decide⟩ (fun c36 => ?_) (fun c36 => ?_)
                          · refine x_goto (tgt := 388) dX9_judges_374 (by decide) ?_
                            refine x_goto (tgt := 61) dX9_judges_388 (by decide) ?_
                            refine x_sub [5, 6, 7, 8, 1, 9, 10] rfl ?_
                            have hs : pstep (M 484 r) (fun k => M 485 (20 * r + k)) (fun k => M 486 (20 * r + k)) (fun k => M 487 (20 * r + k)) (M 478 (6 * M 482 r + t)) (fun k => M 477 (24 * M 482 r + 4 * t + k)) s = (up (up s 5 0 (s 5 0 + 1)) 4 0 (a + 1)) := (pst_j0 (by show M 485 (20 * r + s 4 0) = 106 ∨ M 485 (20 * r + s 4 0) = 110; rw [e2]; omega) (by show ¬ ((M 485 (20 * r + s 4 0) = 106 ∧ s 0 (M 486 (20 * r + s 4 0)) ≠ 0) ∨ (M 485 (20 * r + s 4 0) = 110 ∧ s 0 (M 486 (20 * r + s 4 0)) < 0)); rw [e2]; omega)).trans (by simp only [e2, e3])
                            exact ih_61 _ ((up (up s 5 0 (s 5 0 + 1)) 4 0 (a + 1))) _ _ _ (by exact q0.stp _) (by refine ⟨?_, ?_, ?_⟩ <;> (try simp (disch := omega) only [up_s, up_o]) <;> omega) (by refine ⟨?_, ?_, ?_, ?_, ?_, ?_⟩ <;> (try simp (disch := omega) only [up_s, up_o]) <;> omega) (by omega) (by exact q4.nx (by omega) e1.symm (by omega) (by omega) hs (by (try simp (disch := omega) only [up_s, up_o]) <;> omega) (by (try simp (disch := omega) only [up_s, up_o]) <;> omega) (by omega)) (by (try simp (disch := omega) only [up_s, up_o]) <;> omega)
                          · exact absurd c36 (by decide)
                        · exact absurd c35 (by decide)
                      · refine x_iconst (1) dX9_judges_336 rfl ?_
                        refine x_goto (tgt := 341) dX9_judges_337 (by decide) ?_
                        refine x_istore (lv' := [(10, iv 1), (4, iv (a + 1)), (9, iv (M 487 ((20 * r) + a))), (8, iv (M 486 ((20 * r) + a))), (7, iv (M 485 ((20 * r) + a))), (0, rv g 468), (1, iv r), (2, iv t), (3, iv w), (5, iv k), (6, iv (M 482 r))]) dX9_judges_341 (Nat.le_of_ble_eq_true rfl) rfl ?_
                        refine x_iload 0 dX9_judges_343 rfl ?_
                        refine x_if_eq (tgt := 365) dX9_judges_345 (by decide) ⟨by decide, by decide⟩ (fun c37 => ?_) (fun c37 => ?_)
                        · exact absurd c37 (by decide)
                        · refine x_iload 2 dX9_judges_348 rfl ?_
                          refine x_aload_n 5 dX9_judges_350 rfl rfl ?_
                          refine x_getr (k := 22) (d := 16) dX9_judges_351 fl9_56 k_468 rfl (fun k38 => ?_)
                          have k38 : isK 20 40 484 := k38
                          show Ok g mX9_judges (rmd 1) (FQ g (pV (fun M' => JP M r t M'))) 354 [(10, iv 1), (4, iv (a + 1)), (9, iv (M 487 ((20 * r) + a))), (8, iv (M 486 ((20 * r) + a))), (7, iv (M 485 ((20 * r) + a))), (0, rv g 468), (1, iv r), (2, iv t), (3, iv w), (5, iv k), (6, iv (M 482 r))] [rv g 484, iv (M 487 ((20 * r) + a))] (up M1 489 ((6 * r) + t) ((s 5 0) + 1))
                          refine x_iload_n 6 dX9_judges_354 rfl rfl ?_
                          refine x_iald dX9_judges_355 k38 (by omega) (by omega) (by decide) (fun ⟨a39, a39'⟩ => ?_)
                          have e40 : (up M1 489 ((6 * r) + t) ((s 5 0) + 1)) 484 r = M 484 r := (Eq.trans (b := M1 484 r) (by simp (disch := omega) only [up_o, up_k]) (q0.rd (by omega)))
                          simp only [e40] at a39 a39' ⊢
                          refine x_icmp_lt (tgt := 365) dX9_judges_356 (by decide) ⟨by omega, by omega⟩ ⟨by omega, by omega⟩ (fun c41 => ?_) (fun c41 => ?_)
                          · refine x_iload 0 dX9_judges_365 rfl ?_
                            refine x_if_eq (tgt := 374) dX9_judges_367 (by decide) ⟨by decide, by decide⟩ (fun c42 => ?_) (fun c42 => ?_)
                            · exact absurd c42 (by decide)
                            · refine x_iload 2 dX9_judges_370 rfl ?_
                              refine x_istore (lv' := [(4, iv (M 487 ((20 * r) + a))), (10, iv 1), (9, iv (M 487 ((20 * r) + a))), (8, iv (M 486 ((20 * r) + a))), (7, iv (M 485 ((20 * r) + a))), (0, rv g 468), (1, iv r), (2, iv t), (3, iv w), (5, iv k), (6, iv (M 482 r))]) dX9_judges_372 (Nat.le_of_ble_eq_true rfl) rfl ?_
                              refine x_goto (tgt := 388) dX9_judges_374 (by decide) ?_
                              refine x_goto (tgt := 61) dX9_judges_388 (by decide) ?_
                              refine x_sub [5, 6, 7, 8, 0, 9, 10] rfl ?_
                              have hs : pstep (M 484 r) (fun k => M 485 (20 * r + k)) (fun k => M 486 (20 * r + k)) (fun k => M 487 (20 * r + k)) (M 478 (6 * M 482 r + t)) (fun k => M 477 (24 * M 482 r + 4 * t + k)) s = up (up s 5 0 (s 5 0 + 1)) 4 0 (M 487 (20 * r + a)) := (pst_j2 (by show (M 485 (20 * r + s 4 0) = 106 ∧ s 0 (M 486 (20 * r + s 4 0)) ≠ 0) ∨ (M 485 (20 * r + s 4 0) = 110 ∧ s 0 (M 486 (20 * r + s 4 0)) < 0); rw [e2]; omega) (by show ¬ M 484 r ≤ M 487 (20 * r + s 4 0); rw [e2]; omega)).trans (by simp only [e2, e3])
                              exact ih_61 _ (up (up s 5 0 (s 5 0 + 1)) 4 0 (M 487 (20 * r + a))) _ _ _ (by exact q0.stp _) (by refine ⟨?_, ?_, ?_⟩ <;> (try simp (disch := omega) only [up_s, up_o]) <;> omega) (by refine ⟨?_, ?_, ?_, ?_, ?_, ?_⟩ <;> (try simp (disch := omega) only [up_s, up_o]) <;> omega) (by omega) (by exact q4.nx (by omega) e1.symm (by omega) (by omega) hs (by (try simp (disch := omega) only [up_s, up_o]) <;> omega) (by (try simp (disch := omega) only [up_s, up_o]) <;> omega) (by omega)) (by (try simp (disch := omega) only [up_s, up_o]) <;> omega)
                          · refine x_bipush (114) dX9_judges_359 rfl ?_
                            refine x_istore_n (lv' := [(3, iv 114), (10, iv 1), (4, iv (a + 1)), (9, iv (M 487 ((20 * r) + a))), (8, iv (M 486 ((20 * r) + a))), (7, iv (M 485 ((20 * r) + a))), (0, rv g 468), (1, iv r), (2, iv t), (5, iv k), (6, iv (M 482 r))]) dX9_judges_361 rfl (Nat.le_of_ble_eq_true rfl) rfl ?_
                            refine x_goto (tgt := 374) dX9_judges_362 (by decide) ?_
                            refine x_goto (tgt := 388) dX9_judges_374 (by decide) ?_
                            refine x_goto (tgt := 61) dX9_judges_388 (by decide) ?_
                            refine x_sub [6, 7, 8, 0, 2, 9, 10] rfl ?_
                            have hs : pstep (M 484 r) (fun k => M 485 (20 * r + k)) (fun k => M 486 (20 * r + k)) (fun k => M 487 (20 * r + k)) (M 478 (6 * M 482 r + t)) (fun k => M 477 (24 * M 482 r + 4 * t + k)) s = up (up (up s 5 0 (s 5 0 + 1)) 4 0 (a + 1)) 6 0 114 := (pst_j1 (by show (M 485 (20 * r + s 4 0) = 106 ∧ s 0 (M 486 (20 * r + s 4 0)) ≠ 0) ∨ (M 485 (20 * r + s 4 0) = 110 ∧ s 0 (M 486 (20 * r + s 4 0)) < 0); rw [e2]; omega) (by show M 484 r ≤ M 487 (20 * r + s 4 0); rw [e2]; omega)).trans (by simp only [e2, e3])
                            exact ih_61 _ (up (up (up s 5 0 (s 5 0 + 1)) 4 0 (a + 1)) 6 0 114) _ _ _ (by exact (q0.stp _).ct _ (by omega)) (by refine ⟨?_, ?_, ?_⟩ <;> (try simp (disch := omega) only [up_s, up_o]) <;> omega) (by refine ⟨?_, ?_, ?_, ?_, ?_, ?_⟩ <;> (try simp (disch := omega) only [up_s, up_o]) <;> omega) (by omega) (by exact q4.nx (by omega) e1.symm (by omega) (by omega) hs (by (try simp (disch := omega) only [up_s, up_o]) <;> omega) (by (try simp (disch := omega) only [up_s, up_o]) <;> omega) (by omega)) (by (try simp (disch := omega) only [up_s, up_o]) <;> omega)
                    · refine x_aload_n 4 dX9_judges_308 rfl rfl ?_
                      refine x_getr (k := 30) (d := 24) dX9_judges_309 fl9_80 k_468 rfl (fun k43 => ?_)
                      have k43 : isK 20 4 492 := k43
                      show Ok g mX9_judges (rmd 1) (FQ g (pV (fun M' => JP M r t M'))) 312 [(4, iv (a + 1)), (9, iv (M 487 ((20 * r) + a))), (8, iv (M 486 ((20 * r) + a))), (7, iv (M 485 ((20 * r) + a))), (0, rv g 468), (1, iv r), (2, iv t), (3, iv w), (5, iv k), (6, iv (M 482 r))] [rv g 492] (up M1 489 ((6 * r) + t) ((s 5 0) + 1))
                      refine x_iload 2 dX9_judges_312 rfl ?_
                      refine x_iald dX9_judges_314 k43 (by omega) (by omega) (by decide) (fun ⟨a44, a44'⟩ => ?_)
                      have e45 : (up M1 489 ((6 * r) + t) ((s 5 0) + 1)) 492 (M 486 ((20 * r) + a)) = s 0 (M 486 ((20 * r) + a)) := (Eq.trans (b := M1 492 (M 486 ((20 * r) + a))) (by simp (disch := omega) only [up_o, up_k]) (x2 _ (by omega) (by omega)))
                      simp only [e45] at a44 a44' ⊢
                      refine x_if_eq (tgt := 322) dX9_judges_315 (by decide) ⟨by omega, by omega⟩ (fun c46 => ?_) (fun c46 => ?_)
                      · refine x_iconst (0) dX9_judges_322 rfl ?_
                        refine x_goto (tgt := 341) dX9_judges_323 (by decide) ?_
                        refine x_istore (lv' := [(10, iv 0), (4, iv (a + 1)), (9, iv (M 487 ((20 * r) + a))), (8, iv (M 486 ((20 * r) + a))), (7, iv (M 485 ((20 * r) + a))), (0, rv g 468), (1, iv r), (2, iv t), (3, iv w), (5, iv k), (6, iv (M 482 r))]) dX9_judges_341 (Nat.le_of_ble_eq_true rfl) rfl ?_
                        refine x_iload 0 dX9_judges_343 rfl ?_
                        refine x_if_eq (tgt := 365) dX9_judges_345 (by decide) ⟨by decide, by decide⟩ (fun c47 => ?_) (fun c47 => ?_)
                        · refine x_iload 0 dX9_judges_365 rfl ?_
                          refine x_if_eq (tgt := 374) dX9_judges_367 (by decide) ⟨by decide, by decide⟩ (fun c48 => ?_) (fun c48 => ?_)
                          · refine x_goto (tgt := 388) dX9_judges_374 (by decide) ?_
                            refine x_goto (tgt := 61) dX9_judges_388 (by decide) ?_
                            refine x_sub [5, 6, 7, 8, 1, 9, 10] rfl ?_
                            have hs : pstep (M 484 r) (fun k => M 485 (20 * r + k)) (fun k => M 486 (20 * r + k)) (fun k => M 487 (20 * r + k)) (M 478 (6 * M 482 r + t)) (fun k => M 477 (24 * M 482 r + 4 * t + k)) s = (up (up s 5 0 (s 5 0 + 1)) 4 0 (a + 1)) := (pst_j0 (by show M 485 (20 * r + s 4 0) = 106 ∨ M 485 (20 * r + s 4 0) = 110; rw [e2]; omega) (by show ¬ ((M 485 (20 * r + s 4 0) = 106 ∧ s 0 (M 486 (20 * r + s 4 0)) ≠ 0) ∨ (M 485 (20 * r + s 4 0) = 110 ∧ s 0 (M 486 (20 * r + s 4 0)) < 0)); rw [e2]; omega)).trans (by simp only [e2, e3])
                            exact ih_61 _ ((up (up s 5 0 (s 5 0 + 1)) 4 0 (a + 1))) _ _ _ (by exact q0.stp _) (by refine ⟨?_, ?_, ?_⟩ <;> (try simp (disch := omega) only [up_s, up_o]) <;> omega) (by refine ⟨?_, ?_, ?_, ?_, ?_, ?_⟩ <;> (try simp (disch := omega) only [up_s, up_o]) <;> omega) (by omega) (by exact q4.nx (by omega) e1.symm (by omega) (by omega) hs (by (try simp (disch := omega) only [up_s, up_o]) <;> omega) (by (try simp (disch := omega) only [up_s, up_o]) <;> omega) (by omega)) (by (try simp (disch := omega) only [up_s, up_o]) <;> omega)
                          · exact absurd c48 (by decide)
                        · exact absurd c47 (by decide)
                      · refine x_iconst (1) dX9_judges_318 rfl ?_
                        refine x_goto (tgt := 341) dX9_judges_319 (by decide) ?_
                        refine x_istore (lv' := [(10, iv 1), (4, iv (a + 1)), (9, iv (M 487 ((20 * r) + a))), (8, iv (M 486 ((20 * r) + a))), (7, iv (M 485 ((20 * r) + a))), (0, rv g 468), (1, iv r), (2, iv t), (3, iv w), (5, iv k), (6, iv (M 482 r))]) dX9_judges_341 (Nat.le_of_ble_eq_true rfl) rfl ?_
                        refine x_iload 0 dX9_judges_343 rfl ?_
                        refine x_if_eq (tgt := 365) dX9_judges_345 (by decide) ⟨by decide, by decide⟩ (fun c49 => ?_) (fun c49 => ?_)
                        · exact absurd c49 (by decide)
                        · refine x_iload 2 dX9_judges_348 rfl ?_
                          refine x_aload_n 5 dX9_judges_350 rfl rfl ?_
                          refine x_getr (k := 22) (d := 16) dX9_judges_351 fl9_56 k_468 rfl (fun k50 => ?_)
                          have k50 : isK 20 40 484 := k50
                          show Ok g mX9_judges (rmd 1) (FQ g (pV (fun M' => JP M r t M'))) 354 [(10, iv 1), (4, iv (a + 1)), (9, iv (M 487 ((20 * r) + a))), (8, iv (M 486 ((20 * r) + a))), (7, iv (M 485 ((20 * r) + a))), (0, rv g 468), (1, iv r), (2, iv t), (3, iv w), (5, iv k), (6, iv (M 482 r))] [rv g 484, iv (M 487 ((20 * r) + a))] (up M1 489 ((6 * r) + t) ((s 5 0) + 1))
                          refine x_iload_n 6 dX9_judges_354 rfl rfl ?_
                          refine x_iald dX9_judges_355 k50 (by omega) (by omega) (by decide) (fun ⟨a51, a51'⟩ => ?_)
                          have e52 : (up M1 489 ((6 * r) + t) ((s 5 0) + 1)) 484 r = M 484 r := (Eq.trans (b := M1 484 r) (by simp (disch := omega) only [up_o, up_k]) (q0.rd (by omega)))
                          simp only [e52] at a51 a51' ⊢
                          refine x_icmp_lt (tgt := 365) dX9_judges_356 (by decide) ⟨by omega, by omega⟩ ⟨by omega, by omega⟩ (fun c53 => ?_) (fun c53 => ?_)
                          · refine x_iload 0 dX9_judges_365 rfl ?_
                            refine x_if_eq (tgt := 374) dX9_judges_367 (by decide) ⟨by decide, by decide⟩ (fun c54 => ?_) (fun c54 => ?_)
                            · exact absurd c54 (by decide)
                            · refine x_iload 2 dX9_judges_370 rfl ?_
                              refine x_istore (lv' := [(4, iv (M 487 ((20 * r) + a))), (10, iv 1), (9, iv (M 487 ((20 * r) + a))), (8, iv (M 486 ((20 * r) + a))), (7, iv (M 485 ((20 * r) + a))), (0, rv g 468), (1, iv r), (2, iv t), (3, iv w), (5, iv k), (6, iv (M 482 r))]) dX9_judges_372 (Nat.le_of_ble_eq_true rfl) rfl ?_
                              refine x_goto (tgt := 388) dX9_judges_374 (by decide) ?_
                              refine x_goto (tgt := 61) dX9_judges_388 (by decide) ?_
                              refine x_sub [5, 6, 7, 8, 0, 9, 10] rfl ?_
                              have hs : pstep (M 484 r) (fun k => M 485 (20 * r + k)) (fun k => M 486 (20 * r + k)) (fun k => M 487 (20 * r + k)) (M 478 (6 * M 482 r + t)) (fun k => M 477 (24 * M 482 r + 4 * t + k)) s = up (up s 5 0 (s 5 0 + 1)) 4 0 (M 487 (20 * r + a)) := (pst_j2 (by show (M 485 (20 * r + s 4 0) = 106 ∧ s 0 (M 486 (20 * r + s 4 0)) ≠ 0) ∨ (M 485 (20 * r + s 4 0) = 110 ∧ s 0 (M 486 (20 * r + s 4 0)) < 0); rw [e2]; omega) (by show ¬ M 484 r ≤ M 487 (20 * r + s 4 0); rw [e2]; omega)).trans (by simp only [e2, e3])
                              exact ih_61 _ (up (up s 5 0 (s 5 0 + 1)) 4 0 (M 487 (20 * r + a))) _ _ _ (by exact q0.stp _) (by refine ⟨?_, ?_, ?_⟩ <;> (try simp (disch := omega) only [up_s, up_o]) <;> omega) (by refine ⟨?_, ?_, ?_, ?_, ?_, ?_⟩ <;> (try simp (disch := omega) only [up_s, up_o]) <;> omega) (by omega) (by exact q4.nx (by omega) e1.symm (by omega) (by omega) hs (by (try simp (disch := omega) only [up_s, up_o]) <;> omega) (by (try simp (disch := omega) only [up_s, up_o]) <;> omega) (by omega)) (by (try simp (disch := omega) only [up_s, up_o]) <;> omega)
                          · refine x_bipush (114) dX9_judges_359 rfl ?_
                            refine x_istore_n (lv' := [(3, iv 114), (10, iv 1), (4, iv (a + 1)), (9, iv (M 487 ((20 * r) + a))), (8, iv (M 486 ((20 * r) + a))), (7, iv (M 485 ((20 * r) + a))), (0, rv g 468), (1, iv r), (2, iv t), (5, iv k), (6, iv (M 482 r))]) dX9_judges_361 rfl (Nat.le_of_ble_eq_true rfl) rfl ?_
                            refine x_goto (tgt := 374) dX9_judges_362 (by decide) ?_
                            refine x_goto (tgt := 388) dX9_judges_374 (by decide) ?_
                            refine x_goto (tgt := 61) dX9_judges_388 (by decide) ?_
                            refine x_sub [6, 7, 8, 0, 2, 9, 10] rfl ?_
                            have hs : pstep (M 484 r) (fun k => M 485 (20 * r + k)) (fun k => M 486 (20 * r + k)) (fun k => M 487 (20 * r + k)) (M 478 (6 * M 482 r + t)) (fun k => M 477 (24 * M 482 r + 4 * t + k)) s = up (up (up s 5 0 (s 5 0 + 1)) 4 0 (a + 1)) 6 0 114 := (pst_j1 (by show (M 485 (20 * r + s 4 0) = 106 ∧ s 0 (M 486 (20 * r + s 4 0)) ≠ 0) ∨ (M 485 (20 * r + s 4 0) = 110 ∧ s 0 (M 486 (20 * r + s 4 0)) < 0); rw [e2]; omega) (by show M 484 r ≤ M 487 (20 * r + s 4 0); rw [e2]; omega)).trans (by simp only [e2, e3])
                            exact ih_61 _ (up (up (up s 5 0 (s 5 0 + 1)) 4 0 (a + 1)) 6 0 114) _ _ _ (by exact (q0.stp _).ct _ (by omega)) (by refine ⟨?_, ?_, ?_⟩ <;> (try simp (disch := omega) only [up_s, up_o]) <;> omega) (by refine ⟨?_, ?_, ?_, ?_, ?_, ?_⟩ <;> (try simp (disch := omega) only [up_s, up_o]) <;> omega) (by omega) (by exact q4.nx (by omega) e1.symm (by omega) (by omega) hs (by (try simp (disch := omega) only [up_s, up_o]) <;> omega) (by (try simp (disch := omega) only [up_s, up_o]) <;> omega) (by omega)) (by (try simp (disch := omega) only [up_s, up_o]) <;> omega)
                  · refine x_iload 3 dX9_judges_294 rfl ?_
                    refine x_bipush (110) dX9_judges_296 rfl ?_
                    refine x_icmp_ne (tgt := 377) dX9_judges_298 (by decide) ⟨by omega, by omega⟩ ⟨by decide, by decide⟩ (fun c55 => ?_) (fun c55 => ?_)
                    · refine x_aload_n 4 dX9_judges_377 rfl rfl ?_
                      refine x_iload 3 dX9_judges_378 rfl ?_
                      refine x_iload 2 dX9_judges_380 rfl ?_
                      refine x_iload 1 dX9_judges_382 rfl ?_
                      refine x_callVI (as := [iv (M 485 ((20 * r) + a)), iv (M 486 ((20 * r) + a)), iv (M 487 ((20 * r) + a))]) (rest := []) dX9_judges_384 vl9_152 k_468 (c_X9_reckons g (up M1 489 ((6 * r) + t) ((s 5 0) + 1)) (M 485 ((20 * r) + a)) (M 486 ((20 * r) + a)) (M 487 ((20 * r) + a)) (by omega) (by omega) (by omega) (by omega)) rfl rfl (Nat.le_of_ble_eq_true rfl) ⟨Nat.le_of_ble_eq_true rfl, Nat.le_of_ble_eq_true rfl⟩ (fun z56 M58 h57 => ?_)
                      have ht9 := h57
                      refine x_istore_n (lv' := [(3, iv z56), (4, iv (a + 1)), (9, iv (M 487 ((20 * r) + a))), (8, iv (M 486 ((20 * r) + a))), (7, iv (M 485 ((20 * r) + a))), (0, rv g 468), (1, iv r), (2, iv t), (5, iv k), (6, iv (M 482 r))]) dX9_judges_387 rfl (Nat.le_of_ble_eq_true rfl) rfl ?_
                      refine x_goto (tgt := 61) dX9_judges_388 (by decide) ?_
                      refine x_sub [5, 6, 7, 0, 1, 8, 9] rfl ?_
                      rcases ht9 with ⟨t1, t0, t2, t3⟩ | ⟨t1, t0, t2, t3⟩ | ⟨t1, t2, t3⟩ | ⟨t1, t2, t3⟩ | ⟨t1, t2, t3⟩
                      · try simp (disch := omega) only [up_o] at t3
                        simp (disch := omega) only [up_o] at t0
                        subst t3
                        rw [x2 _ (by omega) (by omega)] at t0
                        have hs : pstep (M 484 r) (fun k => M 485 (20 * r + k)) (fun k => M 486 (20 * r + k)) (fun k => M 487 (20 * r + k)) (M 478 (6 * M 482 r + t)) (fun k => M 477 (24 * M 482 r + 4 * t + k)) s = up (up (up s 5 0 (s 5 0 + 1)) 4 0 (a + 1)) 6 0 114 := (pst_d0 (by show M 485 (20 * r + s 4 0) = 100; rw [e2]; omega) (by show s 0 (M 487 (20 * r + s 4 0)) = 0; rw [e2]; omega)).trans (by simp only [e2, e3])
                        exact ih_61 _ (up (up (up s 5 0 (s 5 0 + 1)) 4 0 (a + 1)) 6 0 114) _ _ _ (by exact (q0.stp _).ct _ (by omega)) (by refine ⟨?_, ?_, ?_⟩ <;> (try simp (disch := omega) only [up_s, up_o]) <;> omega) (by refine ⟨?_, ?_, ?_, ?_, ?_, ?_⟩ <;> (try simp (disch := omega) only [up_s, up_o]) <;> omega) (by omega) (by exact q4.nx (by omega) e1.symm (by omega) (by omega) hs (by (try simp (disch := omega) only [up_s, up_o]) <;> omega) (by (try simp (disch := omega) only [up_s, up_o]) <;> omega) (by omega)) (by (try simp (disch := omega) only [up_s, up_o]) <;> omega)
                      · try simp (disch := omega) only [up_o] at t3
                        simp (disch := omega) only [up_o] at t0
                        subst t3
                        rw [x2 _ (by omega) (by omega)] at t0
                        have hs : pstep (M 484 r) (fun k => M 485 (20 * r + k)) (fun k => M 486 (20 * r + k)) (fun k => M 487 (20 * r + k)) (M 478 (6 * M 482 r + t)) (fun k => M 477 (24 * M 482 r + 4 * t + k)) s = up (up (up s 5 0 (s 5 0 + 1)) 4 0 (a + 1)) 0 (M 486 (20 * r + a)) (dv (s 0 (M 486 (20 * r + a))) (s 0 (M 487 (20 * r + a)))) := (pst_d1 (by show M 485 (20 * r + s 4 0) = 100; rw [e2]; omega) (by show s 0 (M 487 (20 * r + s 4 0)) ≠ 0; rw [e2]; omega)).trans (by simp only [e2, e3])
                        exact ih_61 _ (up (up (up s 5 0 (s 5 0 + 1)) 4 0 (a + 1)) 0 (M 486 (20 * r + a)) (dv (s 0 (M 486 (20 * r + a))) (s 0 (M 487 (20 * r + a))))) _ _ _ (by rw [x2 _ (by omega) (by omega), x2 _ (by omega) (by omega)]; exact (q0.stp _).pl _ _) (by refine ⟨?_, ?_, ?_⟩ <;> (try simp (disch := omega) only [up_s, up_o]) <;> omega) (by refine ⟨?_, ?_, ?_, ?_, ?_, ?_⟩ <;> (try simp (disch := omega) only [up_s, up_o]) <;> omega) (by omega) (by exact q4.nx (by omega) e1.symm (by omega) (by omega) hs (by (try simp (disch := omega) only [up_s, up_o]) <;> omega) (by (try simp (disch := omega) only [up_s, up_o]) <;> omega) (by omega)) (by (try simp (disch := omega) only [up_s, up_o]) <;> omega)
                      · try simp (disch := omega) only [up_o] at t3
                        subst t3
                        have hs : pstep (M 484 r) (fun k => M 485 (20 * r + k)) (fun k => M 486 (20 * r + k)) (fun k => M 487 (20 * r + k)) (M 478 (6 * M 482 r + t)) (fun k => M 477 (24 * M 482 r + 4 * t + k)) s = up (up (up s 5 0 (s 5 0 + 1)) 4 0 (a + 1)) 0 (M 486 (20 * r + a)) (M 487 (20 * r + a)) := (pst_s (by show M 485 (20 * r + s 4 0) = 115; rw [e2]; omega)).trans (by simp only [e2, e3])
                        exact ih_61 _ (up (up (up s 5 0 (s 5 0 + 1)) 4 0 (a + 1)) 0 (M 486 (20 * r + a)) (M 487 (20 * r + a))) _ _ _ (by exact (q0.stp _).pl _ _) (by refine ⟨?_, ?_, ?_⟩ <;> (try simp (disch := omega) only [up_s, up_o]) <;> omega) (by refine ⟨?_, ?_, ?_, ?_, ?_, ?_⟩ <;> (try simp (disch := omega) only [up_s, up_o]) <;> omega) (by omega) (by exact q4.nx (by omega) e1.symm (by omega) (by omega) hs (by (try simp (disch := omega) only [up_s, up_o]) <;> omega) (by (try simp (disch := omega) only [up_s, up_o]) <;> omega) (by omega)) (by (try simp (disch := omega) only [up_s, up_o]) <;> omega)
                      · try simp (disch := omega) only [up_o] at t3
                        subst t3
                        have hs : pstep (M 484 r) (fun k => M 485 (20 * r + k)) (fun k => M 486 (20 * r + k)) (fun k => M 487 (20 * r + k)) (M 478 (6 * M 482 r + t)) (fun k => M 477 (24 * M 482 r + 4 * t + k)) s = up (up (up s 5 0 (s 5 0 + 1)) 4 0 (a + 1)) 0 (M 486 (20 * r + a)) (wr (s 0 (M 486 (20 * r + a)) + s 0 (M 487 (20 * r + a)))) := (pst_a (by show M 485 (20 * r + s 4 0) = 97; rw [e2]; omega)).trans (by simp only [e2, e3])
                        exact ih_61 _ (up (up (up s 5 0 (s 5 0 + 1)) 4 0 (a + 1)) 0 (M 486 (20 * r + a)) (wr (s 0 (M 486 (20 * r + a)) + s 0 (M 487 (20 * r + a))))) _ _ _ (by rw [x2 _ (by omega) (by omega), x2 _ (by omega) (by omega)]; exact (q0.stp _).pl _ _) (by refine ⟨?_, ?_, ?_⟩ <;> (try simp (disch := omega) only [up_s, up_o]) <;> omega) (by refine ⟨?_, ?_, ?_, ?_, ?_, ?_⟩ <;> (try simp (disch := omega) only [up_s, up_o]) <;> omega) (by omega) (by exact q4.nx (by omega) e1.symm (by omega) (by omega) hs (by (try simp (disch := omega) only [up_s, up_o]) <;> omega) (by (try simp (disch := omega) only [up_s, up_o]) <;> omega) (by omega)) (by (try simp (disch := omega) only [up_s, up_o]) <;> omega)
                      · try simp (disch := omega) only [up_o] at t3
                        subst t3
                        have hs : pstep (M 484 r) (fun k => M 485 (20 * r + k)) (fun k => M 486 (20 * r + k)) (fun k => M 487 (20 * r + k)) (M 478 (6 * M 482 r + t)) (fun k => M 477 (24 * M 482 r + 4 * t + k)) s = up (up (up s 5 0 (s 5 0 + 1)) 4 0 (a + 1)) 0 (M 486 (20 * r + a)) (wr (s 0 (M 486 (20 * r + a)) * s 0 (M 487 (20 * r + a)))) := (pst_m (by show M 485 (20 * r + s 4 0) = 109; rw [e2]; omega)).trans (by simp only [e2, e3])
                        exact ih_61 _ (up (up (up s 5 0 (s 5 0 + 1)) 4 0 (a + 1)) 0 (M 486 (20 * r + a)) (wr (s 0 (M 486 (20 * r + a)) * s 0 (M 487 (20 * r + a))))) _ _ _ (by rw [x2 _ (by omega) (by omega), x2 _ (by omega) (by omega)]; exact (q0.stp _).pl _ _) (by refine ⟨?_, ?_, ?_⟩ <;> (try simp (disch := omega) only [up_s, up_o]) <;> omega) (by refine ⟨?_, ?_, ?_, ?_, ?_, ?_⟩ <;> (try simp (disch := omega) only [up_s, up_o]) <;> omega) (by omega) (by exact q4.nx (by omega) e1.symm (by omega) (by omega) hs (by (try simp (disch := omega) only [up_s, up_o]) <;> omega) (by (try simp (disch := omega) only [up_s, up_o]) <;> omega) (by omega)) (by (try simp (disch := omega) only [up_s, up_o]) <;> omega)
                    · refine x_iload 3 dX9_judges_301 rfl ?_
                      refine x_bipush (106) dX9_judges_303 rfl ?_
                      refine x_icmp_ne (tgt := 326) dX9_judges_305 (by decide) ⟨by omega, by omega⟩ ⟨by decide, by decide⟩ (fun c59 => ?_) (fun c59 => ?_)
                      · refine x_aload_n 4 dX9_judges_326 rfl rfl ?_
                        refine x_getr (k := 30) (d := 24) dX9_judges_327 fl9_80 k_468 rfl (fun k60 => ?_)
                        have k60 : isK 20 4 492 := k60
                        show Ok g mX9_judges (rmd 1) (FQ g (pV (fun M' => JP M r t M'))) 330 [(4, iv (a + 1)), (9, iv (M 487 ((20 * r) + a))), (8, iv (M 486 ((20 * r) + a))), (7, iv (M 485 ((20 * r) + a))), (0, rv g 468), (1, iv r), (2, iv t), (3, iv w), (5, iv k), (6, iv (M 482 r))] [rv g 492] (up M1 489 ((6 * r) + t) ((s 5 0) + 1))
                        refine x_iload 2 dX9_judges_330 rfl ?_
                        refine x_iald dX9_judges_332 k60 (by omega) (by omega) (by decide) (fun ⟨a61, a61'⟩ => ?_)
                        have e62 : (up M1 489 ((6 * r) + t) ((s 5 0) + 1)) 492 (M 486 ((20 * r) + a)) = s 0 (M 486 ((20 * r) + a)) := (Eq.trans (b := M1 492 (M 486 ((20 * r) + a))) (by simp (disch := omega) only [up_o, up_k]) (x2 _ (by omega) (by omega)))
                        simp only [e62] at a61 a61' ⊢
                        refine x_if_ge (tgt := 340) dX9_judges_333 (by decide) ⟨by omega, by omega⟩ (fun c63 => ?_) (fun c63 => ?_)
                        · refine x_iconst (0) dX9_judges_340 rfl ?_
                          refine x_istore (lv' := [(10, iv 0), (4, iv (a + 1)), (9, iv (M 487 ((20 * r) + a))), (8, iv (M 486 ((20 * r) + a))), (7, iv (M 485 ((20 * r) + a))), (0, rv g 468), (1, iv r), (2, iv t), (3, iv w), (5, iv k), (6, iv (M 482 r))]) dX9_judges_341 (Nat.le_of_ble_eq_true rfl) rfl ?_
                          refine x_iload 0 dX9_judges_343 rfl ?_
                          refine x_if_eq (tgt := 365) dX9_judges_345 (by decide) ⟨by decide, by decide⟩ (fun c64 => ?_) (fun c64 => ?_)
                          · refine x_iload 0 dX9_judges_365 rfl ?_
                            refine x_if_eq (tgt := 374) dX9_judges_367 (by decide) ⟨by decide, by decide⟩ (fun c65 => ?_) (fun c65 => ?_)
                            · refine x_goto (tgt := 388) dX9_judges_374 (by decide) ?_
                              refine x_goto (tgt := 61) dX9_judges_388 (by decide) ?_
                              refine x_sub [5, 6, 7, 8, 1, 9, 10] rfl ?_
                              have hs : pstep (M 484 r) (fun k => M 485 (20 * r + k)) (fun k => M 486 (20 * r + k)) (fun k => M 487 (20 * r + k)) (M 478 (6 * M 482 r + t)) (fun k => M 477 (24 * M 482 r + 4 * t + k)) s = (up (up s 5 0 (s 5 0 + 1)) 4 0 (a + 1)) := (pst_j0 (by show M 485 (20 * r + s 4 0) = 106 ∨ M 485 (20 * r + s 4 0) = 110; rw [e2]; omega) (by show ¬ ((M 485 (20 * r + s 4 0) = 106 ∧ s 0 (M 486 (20 * r + s 4 0)) ≠ 0) ∨ (M 485 (20 * r + s 4 0) = 110 ∧ s 0 (M 486 (20 * r + s 4 0)) < 0)); rw [e2]; omega)).trans (by simp only [e2, e3])
                              exact ih_61 _ ((up (up s 5 0 (s 5 0 + 1)) 4 0 (a + 1))) _ _ _ (by exact q0.stp _) (by refine ⟨?_, ?_, ?_⟩ <;> (try simp (disch := omega) only [up_s, up_o]) <;> omega) (by refine ⟨?_, ?_, ?_, ?_, ?_, ?_⟩ <;> (try simp (disch := omega) only [up_s, up_o]) <;> omega) (by omega) (by exact q4.nx (by omega) e1.symm (by omega) (by omega) hs (by (try simp (disch := omega) only [up_s, up_o]) <;> omega) (by (try simp (disch := omega) only [up_s, up_o]) <;> omega) (by omega)) (by (try simp (disch := omega) only [up_s, up_o]) <;> omega)
                            · exact absurd c65 (by decide)
                          · exact absurd c64 (by decide)
                        · refine x_iconst (1) dX9_judges_336 rfl ?_
                          refine x_goto (tgt := 341) dX9_judges_337 (by decide) ?_
                          refine x_istore (lv' := [(10, iv 1), (4, iv (a + 1)), (9, iv (M 487 ((20 * r) + a))), (8, iv (M 486 ((20 * r) + a))), (7, iv (M 485 ((20 * r) + a))), (0, rv g 468), (1, iv r), (2, iv t), (3, iv w), (5, iv k), (6, iv (M 482 r))]) dX9_judges_341 (Nat.le_of_ble_eq_true rfl) rfl ?_
                          refine x_iload 0 dX9_judges_343 rfl ?_
                          refine x_if_eq (tgt := 365) dX9_judges_345 (by decide) ⟨by decide, by decide⟩ (fun c66 => ?_) (fun c66 => ?_)
                          · exact absurd c66 (by decide)
                          · refine x_iload 2 dX9_judges_348 rfl ?_
                            refine x_aload_n 5 dX9_judges_350 rfl rfl ?_
                            refine x_getr (k := 22) (d := 16) dX9_judges_351 fl9_56 k_468 rfl (fun k67 => ?_)
                            have k67 : isK 20 40 484 := k67
                            show Ok g mX9_judges (rmd 1) (FQ g (pV (fun M' => JP M r t M'))) 354 [(10, iv 1), (4, iv (a + 1)), (9, iv (M 487 ((20 * r) + a))), (8, iv (M 486 ((20 * r) + a))), (7, iv (M 485 ((20 * r) + a))), (0, rv g 468), (1, iv r), (2, iv t), (3, iv w), (5, iv k), (6, iv (M 482 r))] [rv g 484, iv (M 487 ((20 * r) + a))] (up M1 489 ((6 * r) + t) ((s 5 0) + 1))
                            refine x_iload_n 6 dX9_judges_354 rfl rfl ?_
                            refine x_iald dX9_judges_355 k67 (by omega) (by omega) (by decide) (fun ⟨a68, a68'⟩ => ?_)
                            have e69 : (up M1 489 ((6 * r) + t) ((s 5 0) + 1)) 484 r = M 484 r := (Eq.trans (b := M1 484 r) (by simp (disch := omega) only [up_o, up_k]) (q0.rd (by omega)))
                            simp only [e69] at a68 a68' ⊢
                            refine x_icmp_lt (tgt := 365) dX9_judges_356 (by decide) ⟨by omega, by omega⟩ ⟨by omega, by omega⟩ (fun c70 => ?_) (fun c70 => ?_)
                            · refine x_iload 0 dX9_judges_365 rfl ?_
                              refine x_if_eq (tgt := 374) dX9_judges_367 (by decide) ⟨by decide, by decide⟩ (fun c71 => ?_) (fun c71 => ?_)
                              · exact absurd c71 (by decide)
                              · refine x_iload 2 dX9_judges_370 rfl ?_
                                refine x_istore (lv' := [(4, iv (M 487 ((20 * r) + a))), (10, iv 1), (9, iv (M 487 ((20 * r) + a))), (8, iv (M 486 ((20 * r) + a))), (7, iv (M 485 ((20 * r) + a))), (0, rv g 468), (1, iv r), (2, iv t), (3, iv w), (5, iv k), (6, iv (M 482 r))]) dX9_judges_372 (Nat.le_of_ble_eq_true rfl) rfl ?_
                                refine x_goto (tgt := 388) dX9_judges_374 (by decide) ?_
                                refine x_goto (tgt := 61) dX9_judges_388 (by decide) ?_
                                refine x_sub [5, 6, 7, 8, 0, 9, 10] rfl ?_
                                have hs : pstep (M 484 r) (fun k => M 485 (20 * r + k)) (fun k => M 486 (20 * r + k)) (fun k => M 487 (20 * r + k)) (M 478 (6 * M 482 r + t)) (fun k => M 477 (24 * M 482 r + 4 * t + k)) s = up (up s 5 0 (s 5 0 + 1)) 4 0 (M 487 (20 * r + a)) := (pst_j2 (by show (M 485 (20 * r + s 4 0) = 106 ∧ s 0 (M 486 (20 * r + s 4 0)) ≠ 0) ∨ (M 485 (20 * r + s 4 0) = 110 ∧ s 0 (M 486 (20 * r + s 4 0)) < 0); rw [e2]; omega) (by show ¬ M 484 r ≤ M 487 (20 * r + s 4 0); rw [e2]; omega)).trans (by simp only [e2, e3])
                                exact ih_61 _ (up (up s 5 0 (s 5 0 + 1)) 4 0 (M 487 (20 * r + a))) _ _ _ (by exact q0.stp _) (by refine ⟨?_, ?_, ?_⟩ <;> (try simp (disch := omega) only [up_s, up_o]) <;> omega) (by refine ⟨?_, ?_, ?_, ?_, ?_, ?_⟩ <;> (try simp (disch := omega) only [up_s, up_o]) <;> omega) (by omega) (by exact q4.nx (by omega) e1.symm (by omega) (by omega) hs (by (try simp (disch := omega) only [up_s, up_o]) <;> omega) (by (try simp (disch := omega) only [up_s, up_o]) <;> omega) (by omega)) (by (try simp (disch := omega) only [up_s, up_o]) <;> omega)
                            · refine x_bipush (114) dX9_judges_359 rfl ?_
                              refine x_istore_n (lv' := [(3, iv 114), (10, iv 1), (4, iv (a + 1)), (9, iv (M 487 ((20 * r) + a))), (8, iv (M 486 ((20 * r) + a))), (7, iv (M 485 ((20 * r) + a))), (0, rv g 468), (1, iv r), (2, iv t), (5, iv k), (6, iv (M 482 r))]) dX9_judges_361 rfl (Nat.le_of_ble_eq_true rfl) rfl ?_
                              refine x_goto (tgt := 374) dX9_judges_362 (by decide) ?_
                              refine x_goto (tgt := 388) dX9_judges_374 (by decide) ?_
                              refine x_goto (tgt := 61) dX9_judges_388 (by decide) ?_
                              refine x_sub [6, 7, 8, 0, 2, 9, 10] rfl ?_
                              have hs : pstep (M 484 r) (fun k => M 485 (20 * r + k)) (fun k => M 486 (20 * r + k)) (fun k => M 487 (20 * r + k)) (M 478 (6 * M 482 r + t)) (fun k => M 477 (24 * M 482 r + 4 * t + k)) s = up (up (up s 5 0 (s 5 0 + 1)) 4 0 (a + 1)) 6 0 114 := (pst_j1 (by show (M 485 (20 * r + s 4 0) = 106 ∧ s 0 (M 486 (20 * r + s 4 0)) ≠ 0) ∨ (M 485 (20 * r + s 4 0) = 110 ∧ s 0 (M 486 (20 * r + s 4 0)) < 0); rw [e2]; omega) (by show M 484 r ≤ M 487 (20 * r + s 4 0); rw [e2]; omega)).trans (by simp only [e2, e3])
                              exact ih_61 _ (up (up (up s 5 0 (s 5 0 + 1)) 4 0 (a + 1)) 6 0 114) _ _ _ (by exact (q0.stp _).ct _ (by omega)) (by refine ⟨?_, ?_, ?_⟩ <;> (try simp (disch := omega) only [up_s, up_o]) <;> omega) (by refine ⟨?_, ?_, ?_, ?_, ?_, ?_⟩ <;> (try simp (disch := omega) only [up_s, up_o]) <;> omega) (by omega) (by exact q4.nx (by omega) e1.symm (by omega) (by omega) hs (by (try simp (disch := omega) only [up_s, up_o]) <;> omega) (by (try simp (disch := omega) only [up_s, up_o]) <;> omega) (by omega)) (by (try simp (disch := omega) only [up_s, up_o]) <;> omega)
                      · refine x_aload_n 4 dX9_judges_308 rfl rfl ?_
                        refine x_getr (k := 30) (d := 24) dX9_judges_309 fl9_80 k_468 rfl (fun k72 => ?_)
                        have k72 : isK 20 4 492 := k72
                        show Ok g mX9_judges (rmd 1) (FQ g (pV (fun M' => JP M r t M'))) 312 [(4, iv (a + 1)), (9, iv (M 487 ((20 * r) + a))), (8, iv (M 486 ((20 * r) + a))), (7, iv (M 485 ((20 * r) + a))), (0, rv g 468), (1, iv r), (2, iv t), (3, iv w), (5, iv k), (6, iv (M 482 r))] [rv g 492] (up M1 489 ((6 * r) + t) ((s 5 0) + 1))
                        refine x_iload 2 dX9_judges_312 rfl ?_
                        refine x_iald dX9_judges_314 k72 (by omega) (by omega) (by decide) (fun ⟨a73, a73'⟩ => ?_)
                        have e74 : (up M1 489 ((6 * r) + t) ((s 5 0) + 1)) 492 (M 486 ((20 * r) + a)) = s 0 (M 486 ((20 * r) + a)) := (Eq.trans (b := M1 492 (M 486 ((20 * r) + a))) (by simp (disch := omega) only [up_o, up_k]) (x2 _ (by omega) (by omega)))
                        simp only [e74] at a73 a73' ⊢
                        refine x_if_eq (tgt := 322) dX9_judges_315 (by decide) ⟨by omega, by omega⟩ (fun c75 => ?_) (fun c75 => ?_)
                        · refine x_iconst (0) dX9_judges_322 rfl ?_
                          refine x_goto (tgt := 341) dX9_judges_323 (by decide) ?_
                          refine x_istore (lv' := [(10, iv 0), (4, iv (a + 1)), (9, iv (M 487 ((20 * r) + a))), (8, iv (M 486 ((20 * r) + a))), (7, iv (M 485 ((20 * r) + a))), (0, rv g 468), (1, iv r), (2, iv t), (3, iv w), (5, iv k), (6, iv (M 482 r))]) dX9_judges_341 (Nat.le_of_ble_eq_true rfl) rfl ?_
                          refine x_iload 0 dX9_judges_343 rfl ?_
                          refine x_if_eq (tgt := 365) dX9_judges_345 (by decide) ⟨by decide, by decide⟩ (fun c76 => ?_) (fun c76 => ?_)
                          · refine x_iload 0 dX9_judges_365 rfl ?_
                            refine x_if_eq (tgt := 374) dX9_judges_367 (by decide) ⟨by decide, by decide⟩ (fun c77 => ?_) (fun c77 => ?_)
                            · refine x_goto (tgt := 388) dX9_judges_374 (by decide) ?_
                              refine x_goto (tgt := 61) dX9_judges_388 (by decide) ?_
                              refine x_sub [5, 6, 7, 8, 1, 9, 10] rfl ?_
                              have hs : pstep (M 484 r) (fun k => M 485 (20 * r + k)) (fun k => M 486 (20 * r + k)) (fun k => M 487 (20 * r + k)) (M 478 (6 * M 482 r + t)) (fun k => M 477 (24 * M 482 r + 4 * t + k)) s = (up (up s 5 0 (s 5 0 + 1)) 4 0 (a + 1)) := (pst_j0 (by show M 485 (20 * r + s 4 0) = 106 ∨ M 485 (20 * r + s 4 0) = 110; rw [e2]; omega) (by show ¬ ((M 485 (20 * r + s 4 0) = 106 ∧ s 0 (M 486 (20 * r + s 4 0)) ≠ 0) ∨ (M 485 (20 * r + s 4 0) = 110 ∧ s 0 (M 486 (20 * r + s 4 0)) < 0)); rw [e2]; omega)).trans (by simp only [e2, e3])
                              exact ih_61 _ ((up (up s 5 0 (s 5 0 + 1)) 4 0 (a + 1))) _ _ _ (by exact q0.stp _) (by refine ⟨?_, ?_, ?_⟩ <;> (try simp (disch := omega) only [up_s, up_o]) <;> omega) (by refine ⟨?_, ?_, ?_, ?_, ?_, ?_⟩ <;> (try simp (disch := omega) only [up_s, up_o]) <;> omega) (by omega) (by exact q4.nx (by omega) e1.symm (by omega) (by omega) hs (by (try simp (disch := omega) only [up_s, up_o]) <;> omega) (by (try simp (disch := omega) only [up_s, up_o]) <;> omega) (by omega)) (by (try simp (disch := omega) only [up_s, up_o]) <;> omega)
                            · exact absurd c77 (by decide)
                          · exact absurd c76 (by decide)
                        · refine x_iconst (1) dX9_judges_318 rfl ?_
                          refine x_goto (tgt := 341) dX9_judges_319 (by decide) ?_
                          refine x_istore (lv' := [(10, iv 1), (4, iv (a + 1)), (9, iv (M 487 ((20 * r) + a))), (8, iv (M 486 ((20 * r) + a))), (7, iv (M 485 ((20 * r) + a))), (0, rv g 468), (1, iv r), (2, iv t), (3, iv w), (5, iv k), (6, iv (M 482 r))]) dX9_judges_341 (Nat.le_of_ble_eq_true rfl) rfl ?_
                          refine x_iload 0 dX9_judges_343 rfl ?_
                          refine x_if_eq (tgt := 365) dX9_judges_345 (by decide) ⟨by decide, by decide⟩ (fun c78 => ?_) (fun c78 => ?_)
                          · exact absurd c78 (by decide)
                          · refine x_iload 2 dX9_judges_348 rfl ?_
                            refine x_aload_n 5 dX9_judges_350 rfl rfl ?_
                            refine x_getr (k := 22) (d := 16) dX9_judges_351 fl9_56 k_468 rfl (fun k79 => ?_)
                            have k79 : isK 20 40 484 := k79
                            show Ok g mX9_judges (rmd 1) (FQ g (pV (fun M' => JP M r t M'))) 354 [(10, iv 1), (4, iv (a + 1)), (9, iv (M 487 ((20 * r) + a))), (8, iv (M 486 ((20 * r) + a))), (7, iv (M 485 ((20 * r) + a))), (0, rv g 468), (1, iv r), (2, iv t), (3, iv w), (5, iv k), (6, iv (M 482 r))] [rv g 484, iv (M 487 ((20 * r) + a))] (up M1 489 ((6 * r) + t) ((s 5 0) + 1))
                            refine x_iload_n 6 dX9_judges_354 rfl rfl ?_
                            refine x_iald dX9_judges_355 k79 (by omega) (by omega) (by decide) (fun ⟨a80, a80'⟩ => ?_)
                            have e81 : (up M1 489 ((6 * r) + t) ((s 5 0) + 1)) 484 r = M 484 r := (Eq.trans (b := M1 484 r) (by simp (disch := omega) only [up_o, up_k]) (q0.rd (by omega)))
                            simp only [e81] at a80 a80' ⊢
                            refine x_icmp_lt (tgt := 365) dX9_judges_356 (by decide) ⟨by omega, by omega⟩ ⟨by omega, by omega⟩ (fun c82 => ?_) (fun c82 => ?_)
                            · refine x_iload 0 dX9_judges_365 rfl ?_
                              refine x_if_eq (tgt := 374) dX9_judges_367 (by decide) ⟨by decide, by decide⟩ (fun c83 => ?_) (fun c83 => ?_)
                              · exact absurd c83 (by decide)
                              · refine x_iload 2 dX9_judges_370 rfl ?_
                                refine x_istore (lv' := [(4, iv (M 487 ((20 * r) + a))), (10, iv 1), (9, iv (M 487 ((20 * r) + a))), (8, iv (M 486 ((20 * r) + a))), (7, iv (M 485 ((20 * r) + a))), (0, rv g 468), (1, iv r), (2, iv t), (3, iv w), (5, iv k), (6, iv (M 482 r))]) dX9_judges_372 (Nat.le_of_ble_eq_true rfl) rfl ?_
                                refine x_goto (tgt := 388) dX9_judges_374 (by decide) ?_
                                refine x_goto (tgt := 61) dX9_judges_388 (by decide) ?_
                                refine x_sub [5, 6, 7, 8, 0, 9, 10] rfl ?_
                                have hs : pstep (M 484 r) (fun k => M 485 (20 * r + k)) (fun k => M 486 (20 * r + k)) (fun k => M 487 (20 * r + k)) (M 478 (6 * M 482 r + t)) (fun k => M 477 (24 * M 482 r + 4 * t + k)) s = up (up s 5 0 (s 5 0 + 1)) 4 0 (M 487 (20 * r + a)) := (pst_j2 (by show (M 485 (20 * r + s 4 0) = 106 ∧ s 0 (M 486 (20 * r + s 4 0)) ≠ 0) ∨ (M 485 (20 * r + s 4 0) = 110 ∧ s 0 (M 486 (20 * r + s 4 0)) < 0); rw [e2]; omega) (by show ¬ M 484 r ≤ M 487 (20 * r + s 4 0); rw [e2]; omega)).trans (by simp only [e2, e3])
                                exact ih_61 _ (up (up s 5 0 (s 5 0 + 1)) 4 0 (M 487 (20 * r + a))) _ _ _ (by exact q0.stp _) (by refine ⟨?_, ?_, ?_⟩ <;> (try simp (disch := omega) only [up_s, up_o]) <;> omega) (by refine ⟨?_, ?_, ?_, ?_, ?_, ?_⟩ <;> (try simp (disch := omega) only [up_s, up_o]) <;> omega) (by omega) (by exact q4.nx (by omega) e1.symm (by omega) (by omega) hs (by (try simp (disch := omega) only [up_s, up_o]) <;> omega) (by (try simp (disch := omega) only [up_s, up_o]) <;> omega) (by omega)) (by (try simp (disch := omega) only [up_s, up_o]) <;> omega)
                            · refine x_bipush (114) dX9_judges_359 rfl ?_
                              refine x_istore_n (lv' := [(3, iv 114), (10, iv 1), (4, iv (a + 1)), (9, iv (M 487 ((20 * r) + a))), (8, iv (M 486 ((20 * r) + a))), (7, iv (M 485 ((20 * r) + a))), (0, rv g 468), (1, iv r), (2, iv t), (5, iv k), (6, iv (M 482 r))]) dX9_judges_361 rfl (Nat.le_of_ble_eq_true rfl) rfl ?_
                              refine x_goto (tgt := 374) dX9_judges_362 (by decide) ?_
                              refine x_goto (tgt := 388) dX9_judges_374 (by decide) ?_
                              refine x_goto (tgt := 61) dX9_judges_388 (by decide) ?_
                              refine x_sub [6, 7, 8, 0, 2, 9, 10] rfl ?_
                              have hs : pstep (M 484 r) (fun k => M 485 (20 * r + k)) (fun k => M 486 (20 * r + k)) (fun k => M 487 (20 * r + k)) (M 478 (6 * M 482 r + t)) (fun k => M 477 (24 * M 482 r + 4 * t + k)) s = up (up (up s 5 0 (s 5 0 + 1)) 4 0 (a + 1)) 6 0 114 := (pst_j1 (by show (M 485 (20 * r + s 4 0) = 106 ∧ s 0 (M 486 (20 * r + s 4 0)) ≠ 0) ∨ (M 485 (20 * r + s 4 0) = 110 ∧ s 0 (M 486 (20 * r + s 4 0)) < 0); rw [e2]; omega) (by show M 484 r ≤ M 487 (20 * r + s 4 0); rw [e2]; omega)).trans (by simp only [e2, e3])
                              exact ih_61 _ (up (up (up s 5 0 (s 5 0 + 1)) 4 0 (a + 1)) 6 0 114) _ _ _ (by exact (q0.stp _).ct _ (by omega)) (by refine ⟨?_, ?_, ?_⟩ <;> (try simp (disch := omega) only [up_s, up_o]) <;> omega) (by refine ⟨?_, ?_, ?_, ?_, ?_, ?_⟩ <;> (try simp (disch := omega) only [up_s, up_o]) <;> omega) (by omega) (by exact q4.nx (by omega) e1.symm (by omega) (by omega) hs (by (try simp (disch := omega) only [up_s, up_o]) <;> omega) (by (try simp (disch := omega) only [up_s, up_o]) <;> omega) (by omega)) (by (try simp (disch := omega) only [up_s, up_o]) <;> omega)
                · refine x_aload_n 4 dX9_judges_270 rfl rfl ?_
                  refine x_iload_n 5 dX9_judges_271 rfl rfl ?_
                  refine x_iload_n 6 dX9_judges_272 rfl rfl ?_
                  refine x_aload_n 4 dX9_judges_273 rfl rfl ?_
                  refine x_getr (k := 30) (d := 24) dX9_judges_274 fl9_80 k_468 rfl (fun k84 => ?_)
                  have k84 : isK 20 4 492 := k84
                  show Ok g mX9_judges (rmd 1) (FQ g (pV (fun M' => JP M r t M'))) 277 [(4, iv (a + 1)), (9, iv (M 487 ((20 * r) + a))), (8, iv (M 486 ((20 * r) + a))), (7, iv (M 485 ((20 * r) + a))), (0, rv g 468), (1, iv r), (2, iv t), (3, iv w), (5, iv k), (6, iv (M 482 r))] [rv g 492, iv t, iv r, rv g 468] (up M1 489 ((6 * r) + t) ((s 5 0) + 1))
                  refine x_iload 2 dX9_judges_277 rfl ?_
                  refine x_iald dX9_judges_279 k84 (by omega) (by omega) (by decide) (fun ⟨a85, a85'⟩ => ?_)
                  have e86 : (up M1 489 ((6 * r) + t) ((s 5 0) + 1)) 492 (M 486 ((20 * r) + a)) = s 0 (M 486 ((20 * r) + a)) := (Eq.trans (b := M1 492 (M 486 ((20 * r) + a))) (by simp (disch := omega) only [up_o, up_k]) (x2 _ (by omega) (by omega)))
                  simp only [e86] at a85 a85' ⊢
                  refine x_callVI (as := [iv r, iv t, iv (s 0 (M 486 ((20 * r) + a)))]) (rest := []) dX9_judges_280 vl9_148 k_468 (c_X9_tells g (up M1 489 ((6 * r) + t) ((s 5 0) + 1)) r t (s 0 (M 486 ((20 * r) + a))) (by omega) (by omega) (by omega) (by omega) (by simp (disch := omega) only [up_o]; omega) (by simp (disch := omega) only [up_o]; omega) ⟨by omega, by omega⟩) rfl rfl (Nat.le_of_ble_eq_true rfl) ⟨Nat.le_of_ble_eq_true rfl, Nat.le_of_ble_eq_true rfl⟩ (fun z87 M89 h88 => ?_)
                  have ht9 := h88
                  refine x_istore_n (lv' := [(3, iv z87), (4, iv (a + 1)), (9, iv (M 487 ((20 * r) + a))), (8, iv (M 486 ((20 * r) + a))), (7, iv (M 485 ((20 * r) + a))), (0, rv g 468), (1, iv r), (2, iv t), (5, iv k), (6, iv (M 482 r))]) dX9_judges_283 rfl (Nat.le_of_ble_eq_true rfl) rfl ?_
                  refine x_goto (tgt := 388) dX9_judges_284 (by decide) ?_
                  refine x_goto (tgt := 61) dX9_judges_388 (by decide) ?_
                  refine x_sub [5, 6, 7, 0, 1, 8, 9] rfl ?_
                  rcases ht9 with ⟨t1, t2, t3⟩ | ⟨t1, t2, t3⟩
                  · subst t3
                    rw [up_o (by omega), x3] at t1
                    have hs : pstep (M 484 r) (fun k => M 485 (20 * r + k)) (fun k => M 486 (20 * r + k)) (fun k => M 487 (20 * r + k)) (M 478 (6 * M 482 r + t)) (fun k => M 477 (24 * M 482 r + 4 * t + k)) s = up (up (up s 5 0 (s 5 0 + 1)) 4 0 (a + 1)) 6 0 108 := (pst_o0 (by show M 485 (20 * r + s 4 0) = 111; rw [e2]; omega) (by omega)).trans (by simp only [e2, e3])
                    exact ih_61 _ (up (up (up s 5 0 (s 5 0 + 1)) 4 0 (a + 1)) 6 0 108) _ _ _ (by exact (q0.stp _).ct _ (by omega)) (by refine ⟨?_, ?_, ?_⟩ <;> (try simp (disch := omega) only [up_s, up_o]) <;> omega) (by refine ⟨?_, ?_, ?_, ?_, ?_, ?_⟩ <;> (try simp (disch := omega) only [up_s, up_o]) <;> omega) (by omega) (by exact q4.nx (by omega) e1.symm (by omega) (by omega) hs (by (try simp (disch := omega) only [up_s, up_o]) <;> omega) (by (try simp (disch := omega) only [up_s, up_o]) <;> omega) (by omega)) (by (try simp (disch := omega) only [up_s, up_o]) <;> omega)
                  · subst t3
                    rw [up_o (by omega), x3] at t1
                    have hs : pstep (M 484 r) (fun k => M 485 (20 * r + k)) (fun k => M 486 (20 * r + k)) (fun k => M 487 (20 * r + k)) (M 478 (6 * M 482 r + t)) (fun k => M 477 (24 * M 482 r + 4 * t + k)) s = up (up (up (up s 5 0 (s 5 0 + 1)) 4 0 (a + 1)) 1 (s 2 0) (s 0 (M 486 (20 * r + a)))) 2 0 (s 2 0 + 1) := (pst_o1 (by show M 485 (20 * r + s 4 0) = 111; rw [e2]; omega) (by omega)).trans (by simp only [e2, e3])
                    exact ih_61 _ (up (up (up (up s 5 0 (s 5 0 + 1)) 4 0 (a + 1)) 1 (s 2 0) (s 0 (M 486 (20 * r + a)))) 2 0 (s 2 0 + 1)) _ _ _ (by have e9 := (q0.stp (a + 1)).ou (s 0 (M 486 (20 * r + a))) (by simp (disch := omega) only [up_s, up_o]; omega); simp (disch := omega) only [up_o, x3] at e9 ⊢; exact e9) (by refine ⟨?_, ?_, ?_⟩ <;> (try simp (disch := omega) only [up_s, up_o]) <;> omega) (by refine ⟨?_, ?_, ?_, ?_, ?_, ?_⟩ <;> (try simp (disch := omega) only [up_s, up_o]) <;> omega) (by omega) (by exact q4.nx (by omega) e1.symm (by omega) (by omega) hs (by (try simp (disch := omega) only [up_s, up_o]) <;> omega) (by (try simp (disch := omega) only [up_s, up_o]) <;> omega) (by omega)) (by (try simp (disch := omega) only [up_s, up_o]) <;> omega)
              · refine x_iload 8 dX9_judges_210 rfl ?_
                refine x_aload_n 4 dX9_judges_212 rfl rfl ?_
                refine x_getr (k := 14) (d := 10) dX9_judges_213 fl9_38 k_468 rfl (fun k90 => ?_)
                have k90 : isK 20 30 478 := k90
                show Ok g mX9_judges (rmd 1) (FQ g (pV (fun M' => JP M r t M'))) 216 [(4, iv (a + 1)), (9, iv (M 487 ((20 * r) + a))), (8, iv (M 486 ((20 * r) + a))), (7, iv (M 485 ((20 * r) + a))), (0, rv g 468), (1, iv r), (2, iv t), (3, iv w), (5, iv k), (6, iv (M 482 r))] [rv g 478, iv k] (up M1 489 ((6 * r) + t) ((s 5 0) + 1))
                refine x_bipush (6) dX9_judges_216 rfl ?_
                refine x_iload 9 dX9_judges_218 rfl ?_
                refine x_imul dX9_judges_220 ?_
                refine x_iload_n 6 dX9_judges_221 rfl rfl ?_
                refine x_iadd dX9_judges_222 ?_
                refine x_iald dX9_judges_223 k90 (by omega) (by omega) (by decide) (fun ⟨a91, a91'⟩ => ?_)
                have e92 : (up M1 489 ((6 * r) + t) ((s 5 0) + 1)) 478 ((6 * (M 482 r)) + t) = M 478 ((6 * (M 482 r)) + t) := (Eq.trans (b := M1 478 ((6 * (M 482 r)) + t)) (by simp (disch := omega) only [up_o, up_k]) (q0.rd (by omega)))
                simp only [e92] at a91 a91' ⊢
                refine x_icmp_ne (tgt := 233) dX9_judges_224 (by decide) ⟨by omega, by omega⟩ ⟨by omega, by omega⟩ (fun c93 => ?_) (fun c93 => ?_)
                · refine x_aload_n 4 dX9_judges_233 rfl rfl ?_
                  refine x_getr (k := 30) (d := 24) dX9_judges_234 fl9_80 k_468 rfl (fun k94 => ?_)
                  have k94 : isK 20 4 492 := k94
                  show Ok g mX9_judges (rmd 1) (FQ g (pV (fun M' => JP M r t M'))) 237 [(4, iv (a + 1)), (9, iv (M 487 ((20 * r) + a))), (8, iv (M 486 ((20 * r) + a))), (7, iv (M 485 ((20 * r) + a))), (0, rv g 468), (1, iv r), (2, iv t), (3, iv w), (5, iv k), (6, iv (M 482 r))] [rv g 492] (up M1 489 ((6 * r) + t) ((s 5 0) + 1))
                  refine x_iload 2 dX9_judges_237 rfl ?_
                  refine x_aload_n 4 dX9_judges_239 rfl rfl ?_
                  refine x_getr (k := 13) (d := 9) dX9_judges_240 fl9_35 k_468 rfl (fun k95 => ?_)
                  have k95 : isK 20 120 477 := k95
                  show Ok g mX9_judges (rmd 1) (FQ g (pV (fun M' => JP M r t M'))) 243 [(4, iv (a + 1)), (9, iv (M 487 ((20 * r) + a))), (8, iv (M 486 ((20 * r) + a))), (7, iv (M 485 ((20 * r) + a))), (0, rv g 468), (1, iv r), (2, iv t), (3, iv w), (5, iv k), (6, iv (M 482 r))] [rv g 477, iv (M 486 ((20 * r) + a)), rv g 492] (up M1 489 ((6 * r) + t) ((s 5 0) + 1))
                  refine x_bipush (24) dX9_judges_243 rfl ?_
                  refine x_iload 9 dX9_judges_245 rfl ?_
                  refine x_imul dX9_judges_247 ?_
                  refine x_iconst (4) dX9_judges_248 rfl ?_
                  refine x_iload_n 6 dX9_judges_249 rfl rfl ?_
                  refine x_imul dX9_judges_250 ?_
                  refine x_iadd dX9_judges_251 ?_
                  refine x_iload 8 dX9_judges_252 rfl ?_
                  refine x_iadd dX9_judges_254 ?_
                  refine x_iald dX9_judges_255 k95 (by omega) (by omega) (by decide) (fun ⟨a96, a96'⟩ => ?_)
                  have e97 : (up M1 489 ((6 * r) + t) ((s 5 0) + 1)) 477 (((24 * (M 482 r)) + (4 * t)) + k) = M 477 (((24 * (M 482 r)) + (4 * t)) + k) := (Eq.trans (b := M1 477 (((24 * (M 482 r)) + (4 * t)) + k)) (by simp (disch := omega) only [up_o, up_k]) (q0.rd (by omega)))
                  simp only [e97] at a96 a96' ⊢
                  refine x_iast dX9_judges_256 k94 (by omega) (by omega) (by decide) ⟨by omega, by omega⟩ ?_
                  refine x_iinc (z := k) (lv' := [(5, iv (k + 1)), (4, iv (a + 1)), (9, iv (M 487 ((20 * r) + a))), (8, iv (M 486 ((20 * r) + a))), (7, iv (M 485 ((20 * r) + a))), (0, rv g 468), (1, iv r), (2, iv t), (3, iv w), (6, iv (M 482 r))]) 8 dX9_judges_257 rfl (Nat.le_of_ble_eq_true rfl) rfl ?_
                  refine x_goto (tgt := 388) dX9_judges_260 (by decide) ?_
                  refine x_goto (tgt := 61) dX9_judges_388 (by decide) ?_
                  refine x_sub [5, 6, 7, 8, 1, 0, 9] rfl ?_
                  have hs : pstep (M 484 r) (fun k => M 485 (20 * r + k)) (fun k => M 486 (20 * r + k)) (fun k => M 487 (20 * r + k)) (M 478 (6 * M 482 r + t)) (fun k => M 477 (24 * M 482 r + 4 * t + k)) s = up (up (up (up s 5 0 (s 5 0 + 1)) 4 0 (a + 1)) 0 (M 486 (20 * r + a)) (M 477 (24 * M 482 r + 4 * t + k))) 3 0 (k + 1) := (pst_i1 (by show M 485 (20 * r + s 4 0) = 105; rw [e2]; omega) (by show s 3 0 ≠ M 478 (6 * M 482 r + t); omega)).trans (by simp only [e2, e3])
                  exact ih_61 _ (up (up (up (up s 5 0 (s 5 0 + 1)) 4 0 (a + 1)) 0 (M 486 (20 * r + a)) (M 477 (24 * M 482 r + 4 * t + k))) 3 0 (k + 1)) _ _ _ (by exact ((q0.stp _).pl _ _).ct _ (by omega)) (by refine ⟨?_, ?_, ?_⟩ <;> (try simp (disch := omega) only [up_s, up_o]) <;> omega) (by refine ⟨?_, ?_, ?_, ?_, ?_, ?_⟩ <;> (try simp (disch := omega) only [up_s, up_o]) <;> omega) (by omega) (by exact q4.nx (by omega) e1.symm (by omega) (by omega) hs (by (try simp (disch := omega) only [up_s, up_o]) <;> omega) (by (try simp (disch := omega) only [up_s, up_o]) <;> omega) (by omega)) (by (try simp (disch := omega) only [up_s, up_o]) <;> omega)
                · refine x_bipush (114) dX9_judges_227 rfl ?_
                  refine x_istore_n (lv' := [(3, iv 114), (4, iv (a + 1)), (9, iv (M 487 ((20 * r) + a))), (8, iv (M 486 ((20 * r) + a))), (7, iv (M 485 ((20 * r) + a))), (0, rv g 468), (1, iv r), (2, iv t), (5, iv k), (6, iv (M 482 r))]) dX9_judges_229 rfl (Nat.le_of_ble_eq_true rfl) rfl ?_
                  refine x_goto (tgt := 388) dX9_judges_230 (by decide) ?_
                  refine x_goto (tgt := 61) dX9_judges_388 (by decide) ?_
                  refine x_sub [5, 6, 7, 0, 1, 8, 9] rfl ?_
                  have hs : pstep (M 484 r) (fun k => M 485 (20 * r + k)) (fun k => M 486 (20 * r + k)) (fun k => M 487 (20 * r + k)) (M 478 (6 * M 482 r + t)) (fun k => M 477 (24 * M 482 r + 4 * t + k)) s = up (up (up s 5 0 (s 5 0 + 1)) 4 0 (a + 1)) 6 0 114 := (pst_i0 (by show M 485 (20 * r + s 4 0) = 105; rw [e2]; omega) (by show s 3 0 = M 478 (6 * M 482 r + t); omega)).trans (by simp only [e2, e3])
                  exact ih_61 _ (up (up (up s 5 0 (s 5 0 + 1)) 4 0 (a + 1)) 6 0 114) _ _ _ (by exact (q0.stp _).ct _ (by omega)) (by refine ⟨?_, ?_, ?_⟩ <;> (try simp (disch := omega) only [up_s, up_o]) <;> omega) (by refine ⟨?_, ?_, ?_, ?_, ?_, ?_⟩ <;> (try simp (disch := omega) only [up_s, up_o]) <;> omega) (by omega) (by exact q4.nx (by omega) e1.symm (by omega) (by omega) hs (by (try simp (disch := omega) only [up_s, up_o]) <;> omega) (by (try simp (disch := omega) only [up_s, up_o]) <;> omega) (by omega)) (by (try simp (disch := omega) only [up_s, up_o]) <;> omega)
            · refine x_aload_n 4 dX9_judges_192 rfl rfl ?_
              refine x_getr (k := 22) (d := 16) dX9_judges_193 fl9_56 k_468 rfl (fun k98 => ?_)
              have k98 : isK 20 40 484 := k98
              show Ok g mX9_judges (rmd 1) (FQ g (pV (fun M' => JP M r t M'))) 196 [(4, iv (a + 1)), (9, iv (M 487 ((20 * r) + a))), (8, iv (M 486 ((20 * r) + a))), (7, iv (M 485 ((20 * r) + a))), (0, rv g 468), (1, iv r), (2, iv t), (3, iv w), (5, iv k), (6, iv (M 482 r))] [rv g 484] (up M1 489 ((6 * r) + t) ((s 5 0) + 1))
              refine x_iload_n 5 dX9_judges_196 rfl rfl ?_
              refine x_iald dX9_judges_197 k98 (by omega) (by omega) (by decide) (fun ⟨a99, a99'⟩ => ?_)
              have e100 : (up M1 489 ((6 * r) + t) ((s 5 0) + 1)) 484 r = M 484 r := (Eq.trans (b := M1 484 r) (by simp (disch := omega) only [up_o, up_k]) (q0.rd (by omega)))
              simp only [e100] at a99 a99' ⊢
              refine x_istore (lv' := [(4, iv (M 484 r)), (9, iv (M 487 ((20 * r) + a))), (8, iv (M 486 ((20 * r) + a))), (7, iv (M 485 ((20 * r) + a))), (0, rv g 468), (1, iv r), (2, iv t), (3, iv w), (5, iv k), (6, iv (M 482 r))]) dX9_judges_198 (Nat.le_of_ble_eq_true rfl) rfl ?_
              refine x_goto (tgt := 388) dX9_judges_200 (by decide) ?_
              refine x_goto (tgt := 61) dX9_judges_388 (by decide) ?_
              refine x_sub [4, 5, 6, 7, 0, 8, 9] rfl ?_
              have hs : pstep (M 484 r) (fun k => M 485 (20 * r + k)) (fun k => M 486 (20 * r + k)) (fun k => M 487 (20 * r + k)) (M 478 (6 * M 482 r + t)) (fun k => M 477 (24 * M 482 r + 4 * t + k)) s = up (up s 5 0 (s 5 0 + 1)) 4 0 (M 484 r) := (pst_h (by show M 485 (20 * r + s 4 0) = 104; rw [e2]; omega)).trans (by simp only [e2, e3])
              exact ih_61 _ (up (up s 5 0 (s 5 0 + 1)) 4 0 (M 484 r)) _ _ _ (by exact q0.stp _) (by refine ⟨?_, ?_, ?_⟩ <;> (try simp (disch := omega) only [up_s, up_o]) <;> omega) (by refine ⟨?_, ?_, ?_, ?_, ?_, ?_⟩ <;> (try simp (disch := omega) only [up_s, up_o]) <;> omega) (by omega) (by exact q4.nx (by omega) e1.symm (by omega) (by omega) hs (by (try simp (disch := omega) only [up_s, up_o]) <;> omega) (by (try simp (disch := omega) only [up_s, up_o]) <;> omega) (by omega)) (by (try simp (disch := omega) only [up_s, up_o]) <;> omega)
          · refine x_bipush (116) dX9_judges_119 rfl ?_
            refine x_istore_n (lv' := [(3, iv 116), (0, rv g 468), (1, iv r), (2, iv t), (4, iv a), (5, iv k), (6, iv (M 482 r))]) dX9_judges_121 rfl (Nat.le_of_ble_eq_true rfl) rfl ?_
            refine x_goto (tgt := 61) dX9_judges_122 (by decide) ?_
            refine x_sub [1, 2, 3, 0, 4, 5, 6] rfl ?_
            exact ih_61 _ (up s 6 0 116) _ _ _ (by exact q0.ct _ (by omega)) (by refine ⟨?_, ?_, ?_⟩ <;> (try simp (disch := omega) only [up_s, up_o]) <;> omega) (by refine ⟨?_, ?_, ?_, ?_, ?_, ?_⟩ <;> (try simp (disch := omega) only [up_s, up_o]) <;> omega) (by omega) (by exact q4.lim (by omega) e1.symm (by omega) (by omega)) (by (try simp (disch := omega) only [up_s, up_o]) <;> omega)
        · refine x_aload_n 0 dX9_judges_78 rfl rfl ?_
          refine x_iload_n 1 dX9_judges_79 rfl rfl ?_
          refine x_iload_n 2 dX9_judges_80 rfl rfl ?_
          refine x_callVIP (as := [iv r, iv t]) (rest := []) dX9_judges_81 vl9_144 k_468 (c_X9_isExpected g M1 r t r0 (by omega) (by rw [q0.rd (by omega)]; omega) (by rw [q0.rd (by omega)]; omega) t0 (by omega) (by rw [q0.rd (o := 482) (by omega), q0.rd (by omega)]; omega) (by rw [q0.rd (o := 482) (by omega), q0.rd (by omega)]; omega) (by omega) (by omega)) rfl rfl (Nat.le_of_ble_eq_true rfl) ⟨Nat.le_of_ble_eq_true rfl, Nat.le_of_ble_eq_true rfl⟩ (fun z101 h102 => ?_)
          rw [q0.rd (o := 482) (by omega), q0.rd (o := 480) (by omega), x3] at h102
          have hxp : z101 = 1 ↔ XPo M (M 482 r) t s := by
            have hq : (s 2 0 = M 480 (6 * M 482 r + t) ∧ ∀ k, 0 ≤ k → k < s 2 0 → M1 490 (36 * r + 6 * t + k) = M1 479 (36 * M 482 r + 6 * t + k)) ↔ XPo M (M 482 r) t s := by
              unfold XPo
              refine and_congr_right fun _ => ⟨fun h j j0 j1 => ?_, fun h j j0 j1 => ?_⟩
              · have h9 := h j j0 j1
                rw [x4 j j0 j1, q0.rd (by omega)] at h9
                exact h9
              · rw [x4 j j0 j1, q0.rd (by omega)]
                exact h j j0 j1
            rw [← hq]
            constructor
            · intro e; rcases h102 with ⟨_, b⟩ | ⟨b, _⟩
              · exact b
              · omega
            · intro e; rcases h102 with ⟨b, _⟩ | ⟨_, b⟩
              · exact b
              · exact absurd e b
          refine x_if_eq (tgt := 92) dX9_judges_84 (by decide) ⟨by omega, by omega⟩ (fun c104 => ?_) (fun c104 => ?_)
          · refine x_bipush (119) dX9_judges_92 rfl ?_
            refine x_istore_n (lv' := [(3, iv 119), (0, rv g 468), (1, iv r), (2, iv t), (4, iv a), (5, iv k), (6, iv (M 482 r))]) dX9_judges_94 rfl (Nat.le_of_ble_eq_true rfl) rfl ?_
            refine x_goto (tgt := 61) dX9_judges_95 (by decide) ?_
            refine x_sub [1, 2, 3, 0, 4, 5, 6] rfl ?_
            exact ih_61 _ (up s 6 0 119) _ _ _ (by exact q0.ct _ (by omega)) (by refine ⟨?_, ?_, ?_⟩ <;> (try simp (disch := omega) only [up_s, up_o]) <;> omega) (by refine ⟨?_, ?_, ?_, ?_, ?_, ?_⟩ <;> (try simp (disch := omega) only [up_s, up_o]) <;> omega) (by omega) (by exact q4.fin (by omega) e1.symm (by omega) (by omega) (by right; exact ⟨rfl, fun e => by have := hxp.mpr e; omega⟩)) (by (try simp (disch := omega) only [up_s, up_o]) <;> omega)
          · refine x_bipush (111) dX9_judges_87 rfl ?_
            refine x_goto (tgt := 94) dX9_judges_89 (by decide) ?_
            refine x_istore_n (lv' := [(3, iv 111), (0, rv g 468), (1, iv r), (2, iv t), (4, iv a), (5, iv k), (6, iv (M 482 r))]) dX9_judges_94 rfl (Nat.le_of_ble_eq_true rfl) rfl ?_
            refine x_goto (tgt := 61) dX9_judges_95 (by decide) ?_
            refine x_sub [1, 2, 3, 0, 4, 5, 6] rfl ?_
            exact ih_61 _ (up s 6 0 111) _ _ _ (by exact q0.ct _ (by omega)) (by refine ⟨?_, ?_, ?_⟩ <;> (try simp (disch := omega) only [up_s, up_o]) <;> omega) (by refine ⟨?_, ?_, ?_, ?_, ?_, ?_⟩ <;> (try simp (disch := omega) only [up_s, up_o]) <;> omega) (by omega) (by exact q4.fin (by omega) e1.symm (by omega) (by omega) (by left; exact ⟨rfl, hxp.mp (by omega)⟩)) (by (try simp (disch := omega) only [up_s, up_o]) <;> omega)
  have h_2 : ∀ (n_2 : Nat) (M0 : Mem) (k : Int), (∀ o j, o ≠ 492 → M0 o j = M o j) → (∀ j, 0 ≤ j → j < k → M0 492 j = 0) → (0 ≤ k ∧ k ≤ 4) → (4 - k).toNat < n_2 → Ok g mX9_judges (rmd 1) (FQ g (pV (fun M' => JP M r t M'))) 2 [(0, rv g 468), (1, iv r), (2, iv t), (3, iv k)] [] M0 := by
    intro n_2
    induction n_2 with
    | zero => intro M0 k z0 z1 z2 hn_2; exact absurd hn_2 (Nat.not_lt_zero _)
    | succ n_2 ih_2 =>
      intro M0 k z0 z1 z2 hn_2
      refine x_iload_n 3 dX9_judges_2 rfl rfl ?_
      refine x_iconst (4) dX9_judges_3 rfl ?_
      refine x_icmp_ge (tgt := 20) dX9_judges_4 (by decide) ⟨by omega, by omega⟩ ⟨by decide, by decide⟩ (fun c105 => ?_) (fun c105 => ?_)
      · refine x_aload_n 0 dX9_judges_20 rfl rfl ?_
        refine x_getr (k := 29) (d := 23) dX9_judges_21 fl9_77 k_468 rfl (fun k106 => ?_)
        have k106 : isK 20 240 491 := k106
        show Ok g mX9_judges (rmd 1) (FQ g (pV (fun M' => JP M r t M'))) 24 [(0, rv g 468), (1, iv r), (2, iv t), (3, iv k)] [rv g 491] M0
        refine x_bipush (6) dX9_judges_24 rfl ?_
        refine x_iload_n 1 dX9_judges_26 rfl rfl ?_
        refine x_imul dX9_judges_27 ?_
        refine x_iload_n 2 dX9_judges_28 rfl rfl ?_
        refine x_iadd dX9_judges_29 ?_
        refine x_iconst (0) dX9_judges_30 rfl ?_
        refine x_iast dX9_judges_31 k106 (by omega) (by omega) (by decide) ⟨by decide, by decide⟩ ?_
        refine x_aload_n 0 dX9_judges_32 rfl rfl ?_
        refine x_getr (k := 27) (d := 21) dX9_judges_33 fl9_71 k_468 rfl (fun k107 => ?_)
        have k107 : isK 20 240 489 := k107
        show Ok g mX9_judges (rmd 1) (FQ g (pV (fun M' => JP M r t M'))) 36 [(0, rv g 468), (1, iv r), (2, iv t), (3, iv k)] [rv g 489] (up M0 491 ((6 * r) + t) 0)
        refine x_bipush (6) dX9_judges_36 rfl ?_
        refine x_iload_n 1 dX9_judges_38 rfl rfl ?_
        refine x_imul dX9_judges_39 ?_
        refine x_iload_n 2 dX9_judges_40 rfl rfl ?_
        refine x_iadd dX9_judges_41 ?_
        refine x_iconst (0) dX9_judges_42 rfl ?_
        refine x_iast dX9_judges_43 k107 (by omega) (by omega) (by decide) ⟨by decide, by decide⟩ ?_
        refine x_bipush (32) dX9_judges_44 rfl ?_
        refine x_istore_n (lv' := [(3, iv 32), (0, rv g 468), (1, iv r), (2, iv t)]) dX9_judges_46 rfl (Nat.le_of_ble_eq_true rfl) rfl ?_
        refine x_iconst (0) dX9_judges_47 rfl ?_
        refine x_istore (lv' := [(4, iv 0), (3, iv 32), (0, rv g 468), (1, iv r), (2, iv t)]) dX9_judges_48 (Nat.le_of_ble_eq_true rfl) rfl ?_
        refine x_iconst (0) dX9_judges_50 rfl ?_
        refine x_istore (lv' := [(5, iv 0), (4, iv 0), (3, iv 32), (0, rv g 468), (1, iv r), (2, iv t)]) dX9_judges_51 (Nat.le_of_ble_eq_true rfl) rfl ?_
        refine x_aload_n 3 dX9_judges_53 rfl rfl ?_
        refine x_getr (k := 20) (d := 14) dX9_judges_54 fl9_50 k_468 rfl (fun k108 => ?_)
        have k108 : isK 20 40 482 := k108
        show Ok g mX9_judges (rmd 1) (FQ g (pV (fun M' => JP M r t M'))) 57 [(5, iv 0), (4, iv 0), (3, iv 32), (0, rv g 468), (1, iv r), (2, iv t)] [rv g 482] (up (up M0 491 ((6 * r) + t) 0) 489 ((6 * r) + t) 0)
        refine x_iload_n 4 dX9_judges_57 rfl rfl ?_
        refine x_iald dX9_judges_58 k108 (by omega) (by omega) (by decide) (fun ⟨a109, a109'⟩ => ?_)
        have e110 : (up (up M0 491 ((6 * r) + t) 0) 489 ((6 * r) + t) 0) 482 r = M 482 r := (Eq.trans (b := M0 482 r) (by simp (disch := omega) only [up_o, up_k]) (z0 _ _ (by omega)))
        simp only [e110] at a109 a109' ⊢
        refine x_istore (lv' := [(6, iv (M 482 r)), (5, iv 0), (4, iv 0), (3, iv 32), (0, rv g 468), (1, iv r), (2, iv t)]) dX9_judges_59 (Nat.le_of_ble_eq_true rfl) rfl ?_
        refine x_sub [4, 5, 6, 3, 2, 1, 0] rfl ?_
        exact h_61 _ _ (ps0) _ _ _ (by exact RelB.ini z0 (fun j j0 j1 => z1 j j0 (by omega))) (by exact ⟨rfl, rfl, rfl⟩) (by refine ⟨by omega, by omega, by omega, by omega, Int.le_refl 0, ?_⟩; show (0 : Int) ≤ _; omega) (by omega) (by exact QW.ini M r t) (Nat.lt_succ_self _)
      · refine x_aload_n 0 dX9_judges_7 rfl rfl ?_
        refine x_getr (k := 30) (d := 24) dX9_judges_8 fl9_80 k_468 rfl (fun k111 => ?_)
        have k111 : isK 20 4 492 := k111
        show Ok g mX9_judges (rmd 1) (FQ g (pV (fun M' => JP M r t M'))) 11 [(0, rv g 468), (1, iv r), (2, iv t), (3, iv k)] [rv g 492] M0
        refine x_iload_n 3 dX9_judges_11 rfl rfl ?_
        refine x_iconst (0) dX9_judges_12 rfl ?_
        refine x_iast dX9_judges_13 k111 (by omega) (by omega) (by decide) ⟨by decide, by decide⟩ ?_
        refine x_iinc (z := k) (lv' := [(3, iv (k + 1)), (0, rv g 468), (1, iv r), (2, iv t)]) 3 dX9_judges_14 rfl (Nat.le_of_ble_eq_true rfl) rfl ?_
        refine x_goto (tgt := 2) dX9_judges_17 (by decide) ?_
        refine x_sub [1, 2, 3, 0] rfl ?_
        exact ih_2 _ _ (by intro o j h; rw [up_o h]; exact z0 o j h) (by intro j j0 j1; by_cases e : j = k; rw [e, up_s]; rw [up_k e]; exact z1 j j0 (by omega)) (by omega) (by omega)
  refine x_iconst (0) dX9_judges_0 rfl ?_
  refine x_istore_n (lv' := [(3, iv 0), (0, rv g 468), (1, iv r), (2, iv t)]) dX9_judges_1 rfl (Nat.le_of_ble_eq_true rfl) rfl ?_
  refine x_sub [1, 2, 3, 0] rfl ?_
  exact h_2 _ _ _ (by intro o j _; rfl) (by intro j _ _; omega) (by omega) (Nat.lt_succ_self _)
