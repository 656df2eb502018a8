set_option maxHeartbeats 600000 in
set_option maxRecDepth 100000 in
theorem c_X9_waitingAt (g : GG) (M : Mem) (c k : Int) (q : List Int) (c0 : 0 ≤ c ∧ c < 4) (k0 : 0 ≤ k ∧ k ≤ 2147483647) (G : GB M) (hs : STA M) (hst : 0 ≤ M 468 34 ∧ M 468 34 ≤ 1000000) (hq : QB M c q) (hl : q.length ≤ 40) : Ct g yX9_waitingAt cX9_waitingAt 9 (some .int) 0 [rv g 468, iv c, iv k] M (pIP (fun z => WA q k z) M) := by
  refine ct_of (by decide +kernel) (Nat.le_of_ble_eq_true rfl) ?_
  show Ok g mX9_waitingAt (rmd 0) (FQ g (pIP (fun z => WA q k z) M)) 0 [(0, rv g 468), (1, iv c), (2, iv k)] [] M
  obtain ⟨g1, g2, g3, g4, g5, g6⟩ := id G
  have h_8 : ∀ (n_8 : Nat) (i : Int) (l : Int) (f : Int), (PSD M q i l f) → (0 ≤ l ∧ l ≤ 1000000 ∧ -1 ≤ f ∧ f < 80 ∧ 0 ≤ i ∧ i ≤ 40 ∧ i ≤ k + 1) → (41 - i).toNat < n_8 → Ok g mX9_waitingAt (rmd 0) (FQ g (pIP (fun z => WA q k z) M)) 8 [(0, rv g 468), (1, iv c), (2, iv k), (3, iv l), (4, iv f), (5, iv i)] [] M := by
    intro n_8
    induction n_8 with
    | zero => intro i l f j0 j1 hn_8; exact absurd hn_8 (Nat.not_lt_zero _)
    | succ n_8 ih_8 =>
      intro i l f j0 j1 hn_8
      refine x_iload 5 dX9_waitingAt_8 rfl ?_
      refine x_iload_n 2 dX9_waitingAt_10 rfl rfl ?_
      refine x_icmp_gt (tgt := 191) dX9_waitingAt_11 (by decide) ⟨by omega, by omega⟩ ⟨by omega, by omega⟩ (fun c1 => ?_) (fun c1 => ?_)
      · refine x_iload 4 dX9_waitingAt_191 rfl ?_
        refine x_iret dX9_waitingAt_193 rfl rfl ?_
        obtain ⟨w0, w1, w⟩ := j0
        rcases w with ⟨w, -, -⟩ | ⟨x, w2, w3, w4, w5⟩
        · omega
        rw [show (i - 1).toNat = k.toNat by omega] at w3
        have w6 := (hq.1 x).mp (List.mem_of_getElem? w3)
        exact ⟨_, rfl, rfl, Or.inl ⟨by omega, by omega, x, w3, w5, w6.1, by omega⟩⟩
      · refine x_iconst (-1) dX9_waitingAt_14 rfl ?_
        refine x_istore (lv' := [(4, iv ((-1))), (0, rv g 468), (1, iv c), (2, iv k), (3, iv l), (5, iv i)]) dX9_waitingAt_15 (Nat.le_of_ble_eq_true rfl) rfl ?_
        refine x_iconst (0) dX9_waitingAt_17 rfl ?_
        refine x_istore (lv' := [(6, iv 0), (4, iv ((-1))), (0, rv g 468), (1, iv c), (2, iv k), (3, iv l), (5, iv i)]) dX9_waitingAt_18 (Nat.le_of_ble_eq_true rfl) rfl ?_
        have h_20 : ∀ (n_20 : Nat) (f2 : Int) (t : Int), (0 ≤ t ∧ t ≤ M 468 17) → (MN M c l f2 (5 * t)) → (M 468 17 - t).toNat < n_20 → Ok g mX9_waitingAt (rmd 0) (FQ g (pIP (fun z => WA q k z) M)) 20 [(0, rv g 468), (1, iv c), (2, iv k), (3, iv l), (4, iv f2), (5, iv i), (6, iv t)] [] M := by
          intro n_20
          induction n_20 with
          | zero => intro f2 t l0 l1 hn_20; exact absurd hn_20 (Nat.not_lt_zero _)
          | succ n_20 ih_20 =>
            intro f2 t l0 l1 hn_20
            refine x_iload 6 dX9_waitingAt_20 rfl ?_
            refine x_aload_n 0 dX9_waitingAt_22 rfl rfl ?_
            refine x_geti (k := 17) (kI := 17) dX9_waitingAt_23 fl9_127 k_468 rfl rfl (fun ⟨a2, a2'⟩ => ?_)
            refine x_icmp_ge (tgt := 158) dX9_waitingAt_26 (by decide) ⟨by omega, by omega⟩ ⟨by omega, by omega⟩ (fun c3 => ?_) (fun c3 => ?_)
            · have n0 := l1.rng
              have hn := hq.next hs g2 j0 (show MN M c l f2 (5 * M 468 17) by rw [show M 468 17 = t by omega]; exact l1)
              refine x_iload 4 dX9_waitingAt_158 rfl ?_
              refine x_iconst (-1) dX9_waitingAt_160 rfl ?_
              refine x_icmp_ne (tgt := 166) dX9_waitingAt_161 (by decide) ⟨by omega, by omega⟩ ⟨by decide, by decide⟩ (fun c4 => ?_) (fun c4 => ?_)
              · obtain ⟨n1, n2⟩ | ⟨n1, n2, x, n3, n4, n5, n6, n7⟩ := hn
                · omega
                have n9 := cdx_0 n5 n6
                refine x_aload_n 0 dX9_waitingAt_166 rfl rfl ?_
                refine x_getr (k := 32) (d := 26) dX9_waitingAt_167 fl9_86 k_468 rfl (fun k5 => ?_)
                have k5 : isK 20 40 494 := k5
                show Ok g mX9_waitingAt (rmd 0) (FQ g (pIP (fun z => WA q k z) M)) 170 [(0, rv g 468), (1, iv c), (2, iv k), (3, iv l), (4, iv f2), (5, iv i), (6, iv t)] [rv g 494] M
                refine x_iconst (5) dX9_waitingAt_170 rfl ?_
                refine x_iload 4 dX9_waitingAt_171 rfl ?_
                refine x_bipush (10) dX9_waitingAt_173 rfl ?_
                refine x_idivp dX9_waitingAt_175 (by omega) (by omega) (by omega) (by omega) ?_
                refine x_imul dX9_waitingAt_176 ?_
                refine x_iload 4 dX9_waitingAt_177 rfl ?_
                refine x_bipush (10) dX9_waitingAt_179 rfl ?_
                refine x_iremp dX9_waitingAt_181 (by omega) (by omega) (by omega) (by omega) ?_
                refine x_iadd dX9_waitingAt_182 ?_
                refine x_iald dX9_waitingAt_183 k5 (by omega) (by omega) (by decide) (fun ⟨a6, a6'⟩ => ?_)
                refine x_istore_n (lv' := [(3, iv (M 494 ((5 * (f2 / 10)) + (f2 % 10)))), (0, rv g 468), (1, iv c), (2, iv k), (4, iv f2), (5, iv i), (6, iv t)]) dX9_waitingAt_184 rfl (Nat.le_of_ble_eq_true rfl) rfl ?_
                refine x_iinc (z := i) (lv' := [(5, iv (i + 1)), (3, iv (M 494 ((5 * (f2 / 10)) + (f2 % 10)))), (0, rv g 468), (1, iv c), (2, iv k), (4, iv f2), (6, iv t)]) 5 dX9_waitingAt_185 rfl (Nat.le_of_ble_eq_true rfl) rfl ?_
                refine x_goto (tgt := 8) dX9_waitingAt_188 (by decide) ?_
                refine x_sub [2, 3, 4, 1, 5, 0] rfl ?_
                exact ih_8 _ _ _ (by rw [n7, n4]; exact j0.next n3) (by have n8 := hq.st hs (List.mem_of_getElem? n3); refine ⟨?_, ?_, ?_, ?_, ?_, ?_, ?_⟩ <;> omega) (by omega)
              · have n3 : (q.length : Int) ≤ i := by rcases hn with ⟨n1, n2⟩ | ⟨n1, n2, -⟩ <;> omega
                refine x_iconst (-1) dX9_waitingAt_164 rfl ?_
                refine x_iret dX9_waitingAt_165 rfl rfl ?_
                exact ⟨_, rfl, rfl, Or.inr ⟨by omega, rfl⟩⟩
            · refine x_iconst (0) dX9_waitingAt_29 rfl ?_
              refine x_istore (lv' := [(7, iv 0), (0, rv g 468), (1, iv c), (2, iv k), (3, iv l), (4, iv f2), (5, iv i), (6, iv t)]) dX9_waitingAt_30 (Nat.le_of_ble_eq_true rfl) rfl ?_
              have h_32 : ∀ (n_32 : Nat) (f3 : Int) (p : Int), (0 ≤ p ∧ p ≤ M 468 9) → (MN M c l f3 (5 * t + p)) → (M 468 9 - p).toNat < n_32 → Ok g mX9_waitingAt (rmd 0) (FQ g (pIP (fun z => WA q k z) M)) 32 [(0, rv g 468), (1, iv c), (2, iv k), (3, iv l), (4, iv f3), (5, iv i), (6, iv t), (7, iv p)] [] M := by
                intro n_32
                induction n_32 with
                | zero => intro f3 p m0 m1 hn_32; exact absurd hn_32 (Nat.not_lt_zero _)
                | succ n_32 ih_32 =>
                  intro f3 p m0 m1 hn_32
                  refine x_iload 7 dX9_waitingAt_32 rfl ?_
                  refine x_aload_n 0 dX9_waitingAt_34 rfl rfl ?_
                  refine x_geti (k := 9) (kI := 9) dX9_waitingAt_35 fl9_124 k_468 rfl rfl (fun ⟨a7, a7'⟩ => ?_)
                  have m2 := m1.rng
                  have g7 := g5
                  refine x_icmp_ge (tgt := 152) dX9_waitingAt_38 (by decide) ⟨by omega, by omega⟩ ⟨by omega, by omega⟩ (fun c8 => ?_) (fun c8 => ?_)
                  · refine x_iinc (z := t) (lv' := [(6, iv (t + 1)), (0, rv g 468), (1, iv c), (2, iv k), (3, iv l), (4, iv f3), (5, iv i), (7, iv p)]) 6 dX9_waitingAt_152 rfl (Nat.le_of_ble_eq_true rfl) rfl ?_
                    refine x_goto (tgt := 20) dX9_waitingAt_155 (by decide) ?_
                    refine x_sub [1, 2, 3, 4, 5, 6, 0] rfl ?_
                    exact ih_20 _ _ (by omega) (by refine m1.gap (by omega) (fun x x0 x1 w => ?_); have := w.1.2.1; omega) (by omega)
                  · refine x_aload_n 0 dX9_waitingAt_41 rfl rfl ?_
                    refine x_getr (k := 31) (d := 25) dX9_waitingAt_42 fl9_83 k_468 rfl (fun k9 => ?_)
                    have k9 : isK 21 40 493 := k9
                    show Ok g mX9_waitingAt (rmd 0) (FQ g (pIP (fun z => WA q k z) M)) 45 [(0, rv g 468), (1, iv c), (2, iv k), (3, iv l), (4, iv f3), (5, iv i), (6, iv t), (7, iv p)] [rv g 493] M
                    refine x_iconst (5) dX9_waitingAt_45 rfl ?_
                    refine x_iload 6 dX9_waitingAt_46 rfl ?_
                    refine x_imul dX9_waitingAt_48 ?_
                    refine x_iload 7 dX9_waitingAt_49 rfl ?_
                    refine x_iadd dX9_waitingAt_51 ?_
                    refine x_cald dX9_waitingAt_52 k9 (by omega) (by omega) (by decide) (fun ⟨a10, a10'⟩ => ?_)
                    refine x_bipush (113) dX9_waitingAt_53 rfl ?_
                    refine x_icmp_ne (tgt := 89) dX9_waitingAt_55 (by decide) ⟨by omega, by omega⟩ ⟨by decide, by decide⟩ (fun c11 => ?_) (fun c11 => ?_)
                    · refine x_iconst (0) dX9_waitingAt_89 rfl ?_
                      refine x_istore (lv' := [(8, iv 0), (0, rv g 468), (1, iv c), (2, iv k), (3, iv l), (4, iv f3), (5, iv i), (6, iv t), (7, iv p)]) dX9_waitingAt_90 (Nat.le_of_ble_eq_true rfl) rfl ?_
                      refine x_iload 0 dX9_waitingAt_92 rfl ?_
                      refine x_if_eq (tgt := 146) dX9_waitingAt_94 (by decide) ⟨by decide, by decide⟩ (fun c12 => ?_) (fun c12 => ?_)
                      · refine x_iinc (z := p) (lv' := [(7, iv (p + 1)), (8, iv 0), (0, rv g 468), (1, iv c), (2, iv k), (3, iv l), (4, iv f3), (5, iv i), (6, iv t)]) 8 dX9_waitingAt_146 rfl (Nat.le_of_ble_eq_true rfl) rfl ?_
                        refine x_goto (tgt := 32) dX9_waitingAt_149 (by decide) ?_
                        refine x_sub [2, 3, 4, 5, 6, 7, 8, 0] rfl ?_
                        exact ih_32 _ _ (by omega) (by rw [show 5 * t + (p + 1) = 5 * t + p + 1 by omega]; exact m1.one (fun w => by obtain ⟨⟨u1, u2, u3⟩, u4⟩ := w; rw [show (5 * t + p) % 5 = p by omega] at u2 u3; omega)) (by omega)
                      · exact absurd c12 (by decide)
                    · refine x_aload_n 0 dX9_waitingAt_58 rfl rfl ?_
                      refine x_getr (k := 10) (d := 6) dX9_waitingAt_59 fl9_26 k_468 rfl (fun k13 => ?_)
                      have k13 : isK 20 5 474 := k13
                      show Ok g mX9_waitingAt (rmd 0) (FQ g (pIP (fun z => WA q k z) M)) 62 [(0, rv g 468), (1, iv c), (2, iv k), (3, iv l), (4, iv f3), (5, iv i), (6, iv t), (7, iv p)] [rv g 474] M
                      refine x_iload 7 dX9_waitingAt_62 rfl ?_
                      refine x_iald dX9_waitingAt_64 k13 (by omega) (by omega) (by decide) (fun ⟨a14, a14'⟩ => ?_)
                      refine x_iload_n 1 dX9_waitingAt_65 rfl rfl ?_
                      refine x_icmp_ne (tgt := 89) dX9_waitingAt_66 (by decide) ⟨by omega, by omega⟩ ⟨by omega, by omega⟩ (fun c15 => ?_) (fun c15 => ?_)
                      · refine x_iconst (0) dX9_waitingAt_89 rfl ?_
                        refine x_istore (lv' := [(8, iv 0), (0, rv g 468), (1, iv c), (2, iv k), (3, iv l), (4, iv f3), (5, iv i), (6, iv t), (7, iv p)]) dX9_waitingAt_90 (Nat.le_of_ble_eq_true rfl) rfl ?_
                        refine x_iload 0 dX9_waitingAt_92 rfl ?_
                        refine x_if_eq (tgt := 146) dX9_waitingAt_94 (by decide) ⟨by decide, by decide⟩ (fun c16 => ?_) (fun c16 => ?_)
                        · refine x_iinc (z := p) (lv' := [(7, iv (p + 1)), (8, iv 0), (0, rv g 468), (1, iv c), (2, iv k), (3, iv l), (4, iv f3), (5, iv i), (6, iv t)]) 8 dX9_waitingAt_146 rfl (Nat.le_of_ble_eq_true rfl) rfl ?_
                          refine x_goto (tgt := 32) dX9_waitingAt_149 (by decide) ?_
                          refine x_sub [2, 3, 4, 5, 6, 7, 8, 0] rfl ?_
                          exact ih_32 _ _ (by omega) (by rw [show 5 * t + (p + 1) = 5 * t + p + 1 by omega]; exact m1.one (fun w => by obtain ⟨⟨u1, u2, u3⟩, u4⟩ := w; rw [show (5 * t + p) % 5 = p by omega] at u2 u3; omega)) (by omega)
                        · exact absurd c16 (by decide)
                      · refine x_aload_n 0 dX9_waitingAt_69 rfl rfl ?_
                        refine x_getr (k := 32) (d := 26) dX9_waitingAt_70 fl9_86 k_468 rfl (fun k17 => ?_)
                        have k17 : isK 20 40 494 := k17
                        show Ok g mX9_waitingAt (rmd 0) (FQ g (pIP (fun z => WA q k z) M)) 73 [(0, rv g 468), (1, iv c), (2, iv k), (3, iv l), (4, iv f3), (5, iv i), (6, iv t), (7, iv p)] [rv g 494] M
                        refine x_iconst (5) dX9_waitingAt_73 rfl ?_
                        refine x_iload 6 dX9_waitingAt_74 rfl ?_
                        refine x_imul dX9_waitingAt_76 ?_
                        refine x_iload 7 dX9_waitingAt_77 rfl ?_
                        refine x_iadd dX9_waitingAt_79 ?_
                        refine x_iald dX9_waitingAt_80 k17 (by omega) (by omega) (by decide) (fun ⟨a18, a18'⟩ => ?_)
                        refine x_iload_n 3 dX9_waitingAt_81 rfl rfl ?_
                        refine x_icmp_le (tgt := 89) dX9_waitingAt_82 (by decide) ⟨by omega, by omega⟩ ⟨by omega, by omega⟩ (fun c19 => ?_) (fun c19 => ?_)
                        · refine x_iconst (0) dX9_waitingAt_89 rfl ?_
                          refine x_istore (lv' := [(8, iv 0), (0, rv g 468), (1, iv c), (2, iv k), (3, iv l), (4, iv f3), (5, iv i), (6, iv t), (7, iv p)]) dX9_waitingAt_90 (Nat.le_of_ble_eq_true rfl) rfl ?_
                          refine x_iload 0 dX9_waitingAt_92 rfl ?_
                          refine x_if_eq (tgt := 146) dX9_waitingAt_94 (by decide) ⟨by decide, by decide⟩ (fun c20 => ?_) (fun c20 => ?_)
                          · refine x_iinc (z := p) (lv' := [(7, iv (p + 1)), (8, iv 0), (0, rv g 468), (1, iv c), (2, iv k), (3, iv l), (4, iv f3), (5, iv i), (6, iv t)]) 8 dX9_waitingAt_146 rfl (Nat.le_of_ble_eq_true rfl) rfl ?_
                            refine x_goto (tgt := 32) dX9_waitingAt_149 (by decide) ?_
                            refine x_sub [2, 3, 4, 5, 6, 7, 8, 0] rfl ?_
                            exact ih_32 _ _ (by omega) (by rw [show 5 * t + (p + 1) = 5 * t + p + 1 by omega]; exact m1.one (fun w => by obtain ⟨⟨u1, u2, u3⟩, u4⟩ := w; rw [show (5 * t + p) % 5 = p by omega] at u2 u3; omega)) (by omega)
                          · exact absurd c20 (by decide)
                        · refine x_iconst (1) dX9_waitingAt_85 rfl ?_
                          refine x_goto (tgt := 90) dX9_waitingAt_86 (by decide) ?_
                          refine x_istore (lv' := [(8, iv 1), (0, rv g 468), (1, iv c), (2, iv k), (3, iv l), (4, iv f3), (5, iv i), (6, iv t), (7, iv p)]) dX9_waitingAt_90 (Nat.le_of_ble_eq_true rfl) rfl ?_
                          refine x_iload 0 dX9_waitingAt_92 rfl ?_
                          refine x_if_eq (tgt := 146) dX9_waitingAt_94 (by decide) ⟨by decide, by decide⟩ (fun c21 => ?_) (fun c21 => ?_)
                          · exact absurd c21 (by decide)
                          · refine x_iload 5 dX9_waitingAt_97 rfl ?_
                            refine x_iconst (-1) dX9_waitingAt_99 rfl ?_
                            refine x_icmp_eq (tgt := 136) dX9_waitingAt_100 (by decide) ⟨by omega, by omega⟩ ⟨by decide, by decide⟩ (fun c22 => ?_) (fun c22 => ?_)
                            · refine x_bipush (10) dX9_waitingAt_136 rfl ?_
                              refine x_iload 7 dX9_waitingAt_138 rfl ?_
                              refine x_imul dX9_waitingAt_140 ?_
                              refine x_iload 8 dX9_waitingAt_141 rfl ?_
                              refine x_iadd dX9_waitingAt_143 ?_
                              refine x_istore (lv' := [(4, iv ((10 * t) + p)), (8, iv 1), (0, rv g 468), (1, iv c), (2, iv k), (3, iv l), (5, iv i), (6, iv t), (7, iv p)]) dX9_waitingAt_144 (Nat.le_of_ble_eq_true rfl) rfl ?_
                              refine x_iinc (z := p) (lv' := [(7, iv (p + 1)), (4, iv ((10 * t) + p)), (8, iv 1), (0, rv g 468), (1, iv c), (2, iv k), (3, iv l), (5, iv i), (6, iv t)]) 8 dX9_waitingAt_146 rfl (Nat.le_of_ble_eq_true rfl) rfl ?_
                              refine x_goto (tgt := 32) dX9_waitingAt_149 (by decide) ?_
                              refine x_sub [3, 4, 5, 6, 1, 7, 8, 0] rfl ?_
                              exact ih_32 _ _ (by omega) (by rw [show (10 * t + p : Int) = cdx (5 * t + p) by unfold cdx; omega, show 5 * t + (p + 1) = 5 * t + p + 1 by omega]; exact m1.take (by omega) (by omega) ⟨by omega, by omega, by rw [show (5 * t + p) % 5 = p by omega]; omega⟩ (by omega) (by omega)) (by omega)
                            · refine x_aload_n 1 dX9_waitingAt_103 rfl rfl ?_
                              refine x_getr (k := 32) (d := 26) dX9_waitingAt_104 fl9_86 k_468 rfl (fun k23 => ?_)
                              have k23 : isK 20 40 494 := k23
                              show Ok g mX9_waitingAt (rmd 0) (FQ g (pIP (fun z => WA q k z) M)) 107 [(8, iv 1), (0, rv g 468), (1, iv c), (2, iv k), (3, iv l), (4, iv f3), (5, iv i), (6, iv t), (7, iv p)] [rv g 494] M
                              refine x_iconst (5) dX9_waitingAt_107 rfl ?_
                              refine x_iload 7 dX9_waitingAt_108 rfl ?_
                              refine x_imul dX9_waitingAt_110 ?_
                              refine x_iload 8 dX9_waitingAt_111 rfl ?_
                              refine x_iadd dX9_waitingAt_113 ?_
                              refine x_iald dX9_waitingAt_114 k23 (by omega) (by omega) (by decide) (fun ⟨a24, a24'⟩ => ?_)
                              refine x_aload_n 1 dX9_waitingAt_115 rfl rfl ?_
                              refine x_getr (k := 32) (d := 26) dX9_waitingAt_116 fl9_86 k_468 rfl (fun k25 => ?_)
                              have k25 : isK 20 40 494 := k25
                              show Ok g mX9_waitingAt (rmd 0) (FQ g (pIP (fun z => WA q k z) M)) 119 [(8, iv 1), (0, rv g 468), (1, iv c), (2, iv k), (3, iv l), (4, iv f3), (5, iv i), (6, iv t), (7, iv p)] [rv g 494, iv (M 494 ((5 * t) + p))] M
                              refine x_iconst (5) dX9_waitingAt_119 rfl ?_
                              refine x_iload 5 dX9_waitingAt_120 rfl ?_
                              refine x_bipush (10) dX9_waitingAt_122 rfl ?_
                              refine x_idivp dX9_waitingAt_124 (by omega) (by omega) (by omega) (by omega) ?_
                              refine x_imul dX9_waitingAt_125 ?_
                              refine x_iload 5 dX9_waitingAt_126 rfl ?_
                              refine x_bipush (10) dX9_waitingAt_128 rfl ?_
                              refine x_iremp dX9_waitingAt_130 (by omega) (by omega) (by omega) (by omega) ?_
                              refine x_iadd dX9_waitingAt_131 ?_
                              refine x_iald dX9_waitingAt_132 k25 (by omega) (by omega) (by decide) (fun ⟨a26, a26'⟩ => ?_)
                              refine x_icmp_ge (tgt := 146) dX9_waitingAt_133 (by decide) ⟨by omega, by omega⟩ ⟨by omega, by omega⟩ (fun c27 => ?_) (fun c27 => ?_)
                              · refine x_iinc (z := p) (lv' := [(7, iv (p + 1)), (8, iv 1), (0, rv g 468), (1, iv c), (2, iv k), (3, iv l), (4, iv f3), (5, iv i), (6, iv t)]) 8 dX9_waitingAt_146 rfl (Nat.le_of_ble_eq_true rfl) rfl ?_
                                refine x_goto (tgt := 32) dX9_waitingAt_149 (by decide) ?_
                                refine x_sub [2, 3, 4, 5, 6, 7, 8, 0] rfl ?_
                                exact ih_32 _ _ (by omega) (by rw [show 5 * t + (p + 1) = 5 * t + p + 1 by omega]; exact m1.keep (by omega) (by omega)) (by omega)
                              · refine x_bipush (10) dX9_waitingAt_136 rfl ?_
                                refine x_iload 7 dX9_waitingAt_138 rfl ?_
                                refine x_imul dX9_waitingAt_140 ?_
                                refine x_iload 8 dX9_waitingAt_141 rfl ?_
                                refine x_iadd dX9_waitingAt_143 ?_
                                refine x_istore (lv' := [(4, iv ((10 * t) + p)), (8, iv 1), (0, rv g 468), (1, iv c), (2, iv k), (3, iv l), (5, iv i), (6, iv t), (7, iv p)]) dX9_waitingAt_144 (Nat.le_of_ble_eq_true rfl) rfl ?_
                                refine x_iinc (z := p) (lv' := [(7, iv (p + 1)), (4, iv ((10 * t) + p)), (8, iv 1), (0, rv g 468), (1, iv c), (2, iv k), (3, iv l), (5, iv i), (6, iv t)]) 8 dX9_waitingAt_146 rfl (Nat.le_of_ble_eq_true rfl) rfl ?_
                                refine x_goto (tgt := 32) dX9_waitingAt_149 (by decide) ?_
                                refine x_sub [3, 4, 5, 6, 1, 7, 8, 0] rfl ?_
                                exact ih_32 _ _ (by omega) (by rw [show (10 * t + p : Int) = cdx (5 * t + p) by unfold cdx; omega, show 5 * t + (p + 1) = 5 * t + p + 1 by omega]; exact m1.take (by omega) (by omega) ⟨by omega, by omega, by rw [show (5 * t + p) % 5 = p by omega]; omega⟩ (by omega) (by omega)) (by omega)
              refine x_sub [1, 2, 3, 4, 5, 6, 7, 0] rfl ?_
              exact h_32 _ _ _ (by omega) (by rw [Int.add_zero]; exact l1) (Nat.lt_succ_self _)
        refine x_sub [2, 3, 4, 5, 1, 6, 0] rfl ?_
        exact h_20 _ _ _ (by omega) (by exact MN.ini) (Nat.lt_succ_self _)
  refine x_iconst (0) dX9_waitingAt_0 rfl ?_
  refine x_istore_n (lv' := [(3, iv 0), (0, rv g 468), (1, iv c), (2, iv k)]) dX9_waitingAt_1 rfl (Nat.le_of_ble_eq_true rfl) rfl ?_
  refine x_iconst (0) dX9_waitingAt_2 rfl ?_
  refine x_istore (lv' := [(4, iv 0), (3, iv 0), (0, rv g 468), (1, iv c), (2, iv k)]) dX9_waitingAt_3 (Nat.le_of_ble_eq_true rfl) rfl ?_
  refine x_iconst (0) dX9_waitingAt_5 rfl ?_
  refine x_istore (lv' := [(5, iv 0), (4, iv 0), (3, iv 0), (0, rv g 468), (1, iv c), (2, iv k)]) dX9_waitingAt_6 (Nat.le_of_ble_eq_true rfl) rfl ?_
  refine x_sub [3, 4, 5, 2, 1, 0] rfl ?_
  exact h_8 _ _ _ _ (by exact ⟨by omega, by omega, Or.inl ⟨rfl, rfl, rfl⟩⟩) (by omega) (Nat.lt_succ_self _)
