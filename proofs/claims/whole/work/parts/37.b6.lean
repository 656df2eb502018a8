set_option maxHeartbeats 600000 in
set_option maxRecDepth 100000 in
theorem c_X9_tells (g : GG) (M : Mem) (r t v : Int) (r0 : 0 ≤ r) (r1 : r < 40) (t0 : 0 ≤ t) (t1 : t < 6) (n0 : 0 ≤ M 491 (6 * r + t)) (n1 : M 491 (6 * r + t) ≤ 6) (hv : rg v) : Ct g yX9_tells cX9_tells 4 (some .char) 0 [rv g 468, iv r, iv t, iv v] M (pI (fun z M' => (M 491 (6 * r + t) = 6 ∧ z = 108 ∧ M' = M) ∨ (M 491 (6 * r + t) ≠ 6 ∧ z = 32 ∧ M' = up (up M 490 (36 * r + 6 * t + M 491 (6 * r + t)) v) 491 (6 * r + t) (M 491 (6 * r + t) + 1)))) := by
  refine ct_of (by decide +kernel) (Nat.le_of_ble_eq_true rfl) ?_
  show Ok g mX9_tells (rmd 0) (FQ g (pI (fun z M' => (M 491 (6 * r + t) = 6 ∧ z = 108 ∧ M' = M) ∨ (M 491 (6 * r + t) ≠ 6 ∧ z = 32 ∧ M' = up (up M 490 (36 * r + 6 * t + M 491 (6 * r + t)) v) 491 (6 * r + t) (M 491 (6 * r + t) + 1))))) 0 [(0, rv g 468), (1, iv r), (2, iv t), (3, iv v)] [] M
  have hv1 := hv.1
  have hv2 := hv.2
  refine x_aload_n 0 dX9_tells_0 rfl rfl ?_
  refine x_getr (k := 29) (d := 23) dX9_tells_1 fl9_77 k_468 rfl (fun k1 => ?_)
  have k1 : isK 20 240 491 := k1
  show Ok g mX9_tells (rmd 0) (FQ g (pI (fun z M' => (M 491 (6 * r + t) = 6 ∧ z = 108 ∧ M' = M) ∨ (M 491 (6 * r + t) ≠ 6 ∧ z = 32 ∧ M' = up (up M 490 (36 * r + 6 * t + M 491 (6 * r + t)) v) 491 (6 * r + t) (M 491 (6 * r + t) + 1))))) 4 [(0, rv g 468), (1, iv r), (2, iv t), (3, iv v)] [rv g 491] M
  refine x_bipush (6) dX9_tells_4 rfl ?_
  refine x_iload_n 1 dX9_tells_6 rfl rfl ?_
  refine x_imul dX9_tells_7 ?_
  refine x_iload_n 2 dX9_tells_8 rfl rfl ?_
  refine x_iadd dX9_tells_9 ?_
  refine x_iald dX9_tells_10 k1 (by omega) (by omega) (by decide) (fun ⟨a2, a2'⟩ => ?_)
  refine x_bipush (6) dX9_tells_11 rfl ?_
  refine x_icmp_ne (tgt := 19) dX9_tells_13 (by decide) ⟨by omega, by omega⟩ ⟨by decide, by decide⟩ (fun c3 => ?_) (fun c3 => ?_)
  · refine x_aload_n 0 dX9_tells_19 rfl rfl ?_
    refine x_getr (k := 28) (d := 22) dX9_tells_20 fl9_74 k_468 rfl (fun k4 => ?_)
    have k4 : isK 20 1440 490 := k4
    show Ok g mX9_tells (rmd 0) (FQ g (pI (fun z M' => (M 491 (6 * r + t) = 6 ∧ z = 108 ∧ M' = M) ∨ (M 491 (6 * r + t) ≠ 6 ∧ z = 32 ∧ M' = up (up M 490 (36 * r + 6 * t + M 491 (6 * r + t)) v) 491 (6 * r + t) (M 491 (6 * r + t) + 1))))) 23 [(0, rv g 468), (1, iv r), (2, iv t), (3, iv v)] [rv g 490] M
    refine x_bipush (36) dX9_tells_23 rfl ?_
    refine x_iload_n 1 dX9_tells_25 rfl rfl ?_
    refine x_imul dX9_tells_26 ?_
    refine x_bipush (6) dX9_tells_27 rfl ?_
    refine x_iload_n 2 dX9_tells_29 rfl rfl ?_
    refine x_imul dX9_tells_30 ?_
    refine x_iadd dX9_tells_31 ?_
    refine x_aload_n 0 dX9_tells_32 rfl rfl ?_
    refine x_getr (k := 29) (d := 23) dX9_tells_33 fl9_77 k_468 rfl (fun k5 => ?_)
    have k5 : isK 20 240 491 := k5
    show Ok g mX9_tells (rmd 0) (FQ g (pI (fun z M' => (M 491 (6 * r + t) = 6 ∧ z = 108 ∧ M' = M) ∨ (M 491 (6 * r + t) ≠ 6 ∧ z = 32 ∧ M' = up (up M 490 (36 * r + 6 * t + M 491 (6 * r + t)) v) 491 (6 * r + t) (M 491 (6 * r + t) + 1))))) 36 [(0, rv g 468), (1, iv r), (2, iv t), (3, iv v)] [rv g 491, iv ((36 * r) + (6 * t)), rv g 490] M
    refine x_bipush (6) dX9_tells_36 rfl ?_
    refine x_iload_n 1 dX9_tells_38 rfl rfl ?_
    refine x_imul dX9_tells_39 ?_
    refine x_iload_n 2 dX9_tells_40 rfl rfl ?_
    refine x_iadd dX9_tells_41 ?_
    refine x_iald dX9_tells_42 k5 (by omega) (by omega) (by decide) (fun ⟨a6, a6'⟩ => ?_)
    refine x_iadd dX9_tells_43 ?_
    refine x_iload_n 3 dX9_tells_44 rfl rfl ?_
    refine x_iast dX9_tells_45 k4 (by omega) (by omega) (by decide) ⟨by omega, by omega⟩ ?_
    refine x_aload_n 0 dX9_tells_46 rfl rfl ?_
    refine x_getr (k := 29) (d := 23) dX9_tells_47 fl9_77 k_468 rfl (fun k7 => ?_)
    have k7 : isK 20 240 491 := k7
    show Ok g mX9_tells (rmd 0) (FQ g (pI (fun z M' => (M 491 (6 * r + t) = 6 ∧ z = 108 ∧ M' = M) ∨ (M 491 (6 * r + t) ≠ 6 ∧ z = 32 ∧ M' = up (up M 490 (36 * r + 6 * t + M 491 (6 * r + t)) v) 491 (6 * r + t) (M 491 (6 * r + t) + 1))))) 50 [(0, rv g 468), (1, iv r), (2, iv t), (3, iv v)] [rv g 491] (up M 490 (((36 * r) + (6 * t)) + (M 491 ((6 * r) + t))) v)
    refine x_bipush (6) dX9_tells_50 rfl ?_
    refine x_iload_n 1 dX9_tells_52 rfl rfl ?_
    refine x_imul dX9_tells_53 ?_
    refine x_iload_n 2 dX9_tells_54 rfl rfl ?_
    refine x_iadd dX9_tells_55 ?_
    refine x_dup2 dX9_tells_56 rfl rfl ?_
    refine x_iald dX9_tells_57 k7 (by omega) (by omega) (by decide) (fun ⟨a8, a8'⟩ => ?_)
    have e9 : (up M 490 (((36 * r) + (6 * t)) + (M 491 ((6 * r) + t))) v) 491 ((6 * r) + t) = M 491 ((6 * r) + t) := (by simp (disch := omega) only [up_s, up_o, up_k])
    simp only [e9] at a8 a8' ⊢
    refine x_iconst (1) dX9_tells_58 rfl ?_
    refine x_iadd dX9_tells_59 ?_
    refine x_iast dX9_tells_60 k7 (by omega) (by omega) (by decide) ⟨by omega, by omega⟩ ?_
    refine x_bipush (32) dX9_tells_61 rfl ?_
    refine x_iret dX9_tells_63 rfl (iZ_char (by omega) (by omega)) ?_
    exact ⟨_, rfl, Or.inr ⟨by omega, rfl, rfl⟩⟩
  · refine x_bipush (108) dX9_tells_16 rfl ?_
    refine x_iret dX9_tells_18 rfl (iZ_char (by omega) (by omega)) ?_
    exact ⟨_, rfl, Or.inl ⟨by omega, rfl, rfl⟩⟩

set_option maxHeartbeats 600000 in
set_option maxRecDepth 100000 in
theorem c_X9_reckons (g : GG) (M : Mem) (w a b : Int) (hw : w = 100 ∨ w = 115 ∨ w = 97 ∨ w = 109) (a0 : 0 ≤ a) (a1 : a ≤ 3) (hb : (w = 115 ∧ -999 ≤ b ∧ b ≤ 999) ∨ (w ≠ 115 ∧ 0 ≤ b ∧ b ≤ 3)) : Ct g yX9_reckons cX9_reckons 4 (some .char) 0 [rv g 468, iv w, iv a, iv b] M (pI (fun z M' => (w = 100 ∧ M 492 b = 0 ∧ z = 114 ∧ M' = M) ∨ (w = 100 ∧ M 492 b ≠ 0 ∧ z = 32 ∧ M' = up M 492 a (dv (M 492 a) (M 492 b))) ∨ (w = 115 ∧ z = 32 ∧ M' = up M 492 a b) ∨ (w = 97 ∧ z = 32 ∧ M' = up M 492 a (wr (M 492 a + M 492 b))) ∨ (w = 109 ∧ z = 32 ∧ M' = up M 492 a (wr (M 492 a * M 492 b))))) := by
  refine ct_of (by decide +kernel) (Nat.le_of_ble_eq_true rfl) ?_
  show Ok g mX9_reckons (rmd 0) (FQ g (pI (fun z M' => (w = 100 ∧ M 492 b = 0 ∧ z = 114 ∧ M' = M) ∨ (w = 100 ∧ M 492 b ≠ 0 ∧ z = 32 ∧ M' = up M 492 a (dv (M 492 a) (M 492 b))) ∨ (w = 115 ∧ z = 32 ∧ M' = up M 492 a b) ∨ (w = 97 ∧ z = 32 ∧ M' = up M 492 a (wr (M 492 a + M 492 b))) ∨ (w = 109 ∧ z = 32 ∧ M' = up M 492 a (wr (M 492 a * M 492 b)))))) 0 [(0, rv g 468), (1, iv w), (2, iv a), (3, iv b)] [] M
  refine x_iload_n 1 dX9_reckons_0 rfl rfl ?_
  refine x_bipush (100) dX9_reckons_1 rfl ?_
  refine x_icmp_ne (tgt := 18) dX9_reckons_3 (by decide) ⟨by omega, by omega⟩ ⟨by decide, by decide⟩ (fun c1 => ?_) (fun c1 => ?_)
  · refine x_iload_n 1 dX9_reckons_18 rfl rfl ?_
    refine x_bipush (115) dX9_reckons_19 rfl ?_
    refine x_icmp_ne (tgt := 34) dX9_reckons_21 (by decide) ⟨by omega, by omega⟩ ⟨by decide, by decide⟩ (fun c2 => ?_) (fun c2 => ?_)
    · refine x_iload_n 1 dX9_reckons_34 rfl rfl ?_
      refine x_bipush (97) dX9_reckons_35 rfl ?_
      refine x_icmp_ne (tgt := 58) dX9_reckons_37 (by decide) ⟨by omega, by omega⟩ ⟨by decide, by decide⟩ (fun c3 => ?_) (fun c3 => ?_)
      · refine x_iload_n 1 dX9_reckons_58 rfl rfl ?_
        refine x_bipush (109) dX9_reckons_59 rfl ?_
        refine x_icmp_ne (tgt := 82) dX9_reckons_61 (by decide) ⟨by omega, by omega⟩ ⟨by decide, by decide⟩ (fun c4 => ?_) (fun c4 => ?_)
        · refine x_aload_n 0 dX9_reckons_82 rfl rfl ?_
          refine x_getr (k := 30) (d := 24) dX9_reckons_83 fl9_80 k_468 rfl (fun k5 => ?_)
          have k5 : isK 20 4 492 := k5
          show Ok g mX9_reckons (rmd 0) (FQ g (pI (fun z M' => (w = 100 ∧ M 492 b = 0 ∧ z = 114 ∧ M' = M) ∨ (w = 100 ∧ M 492 b ≠ 0 ∧ z = 32 ∧ M' = up M 492 a (dv (M 492 a) (M 492 b))) ∨ (w = 115 ∧ z = 32 ∧ M' = up M 492 a b) ∨ (w = 97 ∧ z = 32 ∧ M' = up M 492 a (wr (M 492 a + M 492 b))) ∨ (w = 109 ∧ z = 32 ∧ M' = up M 492 a (wr (M 492 a * M 492 b)))))) 86 [(0, rv g 468), (1, iv w), (2, iv a), (3, iv b)] [rv g 492] M
          refine x_iload_n 2 dX9_reckons_86 rfl rfl ?_
          refine x_dup2 dX9_reckons_87 rfl rfl ?_
          refine x_iald dX9_reckons_88 k5 (by omega) (by omega) (by decide) (fun ⟨a6, a6'⟩ => ?_)
          refine x_aload_n 0 dX9_reckons_89 rfl rfl ?_
          refine x_getr (k := 30) (d := 24) dX9_reckons_90 fl9_80 k_468 rfl (fun k7 => ?_)
          have k7 : isK 20 4 492 := k7
          show Ok g mX9_reckons (rmd 0) (FQ g (pI (fun z M' => (w = 100 ∧ M 492 b = 0 ∧ z = 114 ∧ M' = M) ∨ (w = 100 ∧ M 492 b ≠ 0 ∧ z = 32 ∧ M' = up M 492 a (dv (M 492 a) (M 492 b))) ∨ (w = 115 ∧ z = 32 ∧ M' = up M 492 a b) ∨ (w = 97 ∧ z = 32 ∧ M' = up M 492 a (wr (M 492 a + M 492 b))) ∨ (w = 109 ∧ z = 32 ∧ M' = up M 492 a (wr (M 492 a * M 492 b)))))) 93 [(0, rv g 468), (1, iv w), (2, iv a), (3, iv b)] [rv g 492, iv (M 492 a), iv a, rv g 492] M
          refine x_iload_n 3 dX9_reckons_93 rfl rfl ?_
          refine x_iald dX9_reckons_94 k7 (by omega) (by omega) (by decide) (fun ⟨a8, a8'⟩ => ?_)
          refine x_idivw dX9_reckons_95 ⟨by omega, by omega⟩ (by omega) ?_
          refine x_iast dX9_reckons_96 k5 (by omega) (by omega) (by decide) (rg_dv _ _) ?_
          refine x_bipush (32) dX9_reckons_97 rfl ?_
          refine x_iret dX9_reckons_99 rfl (iZ_char (by omega) (by omega)) ?_
          exact ⟨_, rfl, Or.inr (Or.inl ⟨by omega, by omega, rfl, rfl⟩)⟩
        · refine x_aload_n 0 dX9_reckons_64 rfl rfl ?_
          refine x_getr (k := 30) (d := 24) dX9_reckons_65 fl9_80 k_468 rfl (fun k9 => ?_)
          have k9 : isK 20 4 492 := k9
          show Ok g mX9_reckons (rmd 0) (FQ g (pI (fun z M' => (w = 100 ∧ M 492 b = 0 ∧ z = 114 ∧ M' = M) ∨ (w = 100 ∧ M 492 b ≠ 0 ∧ z = 32 ∧ M' = up M 492 a (dv (M 492 a) (M 492 b))) ∨ (w = 115 ∧ z = 32 ∧ M' = up M 492 a b) ∨ (w = 97 ∧ z = 32 ∧ M' = up M 492 a (wr (M 492 a + M 492 b))) ∨ (w = 109 ∧ z = 32 ∧ M' = up M 492 a (wr (M 492 a * M 492 b)))))) 68 [(0, rv g 468), (1, iv w), (2, iv a), (3, iv b)] [rv g 492] M
          refine x_iload_n 2 dX9_reckons_68 rfl rfl ?_
          refine x_dup2 dX9_reckons_69 rfl rfl ?_
          refine x_iald dX9_reckons_70 k9 (by omega) (by omega) (by decide) (fun ⟨a10, a10'⟩ => ?_)
          refine x_aload_n 0 dX9_reckons_71 rfl rfl ?_
          refine x_getr (k := 30) (d := 24) dX9_reckons_72 fl9_80 k_468 rfl (fun k11 => ?_)
          have k11 : isK 20 4 492 := k11
          show Ok g mX9_reckons (rmd 0) (FQ g (pI (fun z M' => (w = 100 ∧ M 492 b = 0 ∧ z = 114 ∧ M' = M) ∨ (w = 100 ∧ M 492 b ≠ 0 ∧ z = 32 ∧ M' = up M 492 a (dv (M 492 a) (M 492 b))) ∨ (w = 115 ∧ z = 32 ∧ M' = up M 492 a b) ∨ (w = 97 ∧ z = 32 ∧ M' = up M 492 a (wr (M 492 a + M 492 b))) ∨ (w = 109 ∧ z = 32 ∧ M' = up M 492 a (wr (M 492 a * M 492 b)))))) 75 [(0, rv g 468), (1, iv w), (2, iv a), (3, iv b)] [rv g 492, iv (M 492 a), iv a, rv g 492] M
          refine x_iload_n 3 dX9_reckons_75 rfl rfl ?_
          refine x_iald dX9_reckons_76 k11 (by omega) (by omega) (by decide) (fun ⟨a12, a12'⟩ => ?_)
          refine x_imulw dX9_reckons_77 ?_
          refine x_iast dX9_reckons_78 k9 (by omega) (by omega) (by decide) (rg_wr _) ?_
          refine x_goto (tgt := 97) dX9_reckons_79 (by decide) ?_
          refine x_bipush (32) dX9_reckons_97 rfl ?_
          refine x_iret dX9_reckons_99 rfl (iZ_char (by omega) (by omega)) ?_
          exact ⟨_, rfl, Or.inr (Or.inr (Or.inr (Or.inr ⟨by omega, rfl, rfl⟩)))⟩
      · refine x_aload_n 0 dX9_reckons_40 rfl rfl ?_
        refine x_getr (k := 30) (d := 24) dX9_reckons_41 fl9_80 k_468 rfl (fun k13 => ?_)
        have k13 : isK 20 4 492 := k13
        show Ok g mX9_reckons (rmd 0) (FQ g (pI (fun z M' => (w = 100 ∧ M 492 b = 0 ∧ z = 114 ∧ M' = M) ∨ (w = 100 ∧ M 492 b ≠ 0 ∧ z = 32 ∧ M' = up M 492 a (dv (M 492 a) (M 492 b))) ∨ (w = 115 ∧ z = 32 ∧ M' = up M 492 a b) ∨ (w = 97 ∧ z = 32 ∧ M' = up M 492 a (wr (M 492 a + M 492 b))) ∨ (w = 109 ∧ z = 32 ∧ M' = up M 492 a (wr (M 492 a * M 492 b)))))) 44 [(0, rv g 468), (1, iv w), (2, iv a), (3, iv b)] [rv g 492] M
        refine x_iload_n 2 dX9_reckons_44 rfl rfl ?_
        refine x_dup2 dX9_reckons_45 rfl rfl ?_
        refine x_iald dX9_reckons_46 k13 (by omega) (by omega) (by decide) (fun ⟨a14, a14'⟩ => ?_)
        refine x_aload_n 0 dX9_reckons_47 rfl rfl ?_
        refine x_getr (k := 30) (d := 24) dX9_reckons_48 fl9_80 k_468 rfl (fun k15 => ?_)
        have k15 : isK 20 4 492 := k15
        show Ok g mX9_reckons (rmd 0) (FQ g (pI (fun z M' => (w = 100 ∧ M 492 b = 0 ∧ z = 114 ∧ M' = M) ∨ (w = 100 ∧ M 492 b ≠ 0 ∧ z = 32 ∧ M' = up M 492 a (dv (M 492 a) (M 492 b))) ∨ (w = 115 ∧ z = 32 ∧ M' = up M 492 a b) ∨ (w = 97 ∧ z = 32 ∧ M' = up M 492 a (wr (M 492 a + M 492 b))) ∨ (w = 109 ∧ z = 32 ∧ M' = up M 492 a (wr (M 492 a * M 492 b)))))) 51 [(0, rv g 468), (1, iv w), (2, iv a), (3, iv b)] [rv g 492, iv (M 492 a), iv a, rv g 492] M
        refine x_iload_n 3 dX9_reckons_51 rfl rfl ?_
        refine x_iald dX9_reckons_52 k15 (by omega) (by omega) (by decide) (fun ⟨a16, a16'⟩ => ?_)
        refine x_iaddw dX9_reckons_53 ?_
        refine x_iast dX9_reckons_54 k13 (by omega) (by omega) (by decide) (rg_wr _) ?_
        refine x_goto (tgt := 97) dX9_reckons_55 (by decide) ?_
        refine x_bipush (32) dX9_reckons_97 rfl ?_
        refine x_iret dX9_reckons_99 rfl (iZ_char (by omega) (by omega)) ?_
        exact ⟨_, rfl, Or.inr (Or.inr (Or.inr (Or.inl ⟨by omega, rfl, rfl⟩)))⟩
    · refine x_aload_n 0 dX9_reckons_24 rfl rfl ?_
      refine x_getr (k := 30) (d := 24) dX9_reckons_25 fl9_80 k_468 rfl (fun k17 => ?_)
      have k17 : isK 20 4 492 := k17
      show Ok g mX9_reckons (rmd 0) (FQ g (pI (fun z M' => (w = 100 ∧ M 492 b = 0 ∧ z = 114 ∧ M' = M) ∨ (w = 100 ∧ M 492 b ≠ 0 ∧ z = 32 ∧ M' = up M 492 a (dv (M 492 a) (M 492 b))) ∨ (w = 115 ∧ z = 32 ∧ M' = up M 492 a b) ∨ (w = 97 ∧ z = 32 ∧ M' = up M 492 a (wr (M 492 a + M 492 b))) ∨ (w = 109 ∧ z = 32 ∧ M' = up M 492 a (wr (M 492 a * M 492 b)))))) 28 [(0, rv g 468), (1, iv w), (2, iv a), (3, iv b)] [rv g 492] M
      refine x_iload_n 2 dX9_reckons_28 rfl rfl ?_
      refine x_iload_n 3 dX9_reckons_29 rfl rfl ?_
      refine x_iast dX9_reckons_30 k17 (by omega) (by omega) (by decide) ⟨by omega, by omega⟩ ?_
      refine x_goto (tgt := 97) dX9_reckons_31 (by decide) ?_
      refine x_bipush (32) dX9_reckons_97 rfl ?_
      refine x_iret dX9_reckons_99 rfl (iZ_char (by omega) (by omega)) ?_
      exact ⟨_, rfl, Or.inr (Or.inr (Or.inl ⟨by omega, rfl, rfl⟩))⟩
  · refine x_aload_n 0 dX9_reckons_6 rfl rfl ?_
    refine x_getr (k := 30) (d := 24) dX9_reckons_7 fl9_80 k_468 rfl (fun k18 => ?_)
    have k18 : isK 20 4 492 := k18
    show Ok g mX9_reckons (rmd 0) (FQ g (pI (fun z M' => (w = 100 ∧ M 492 b = 0 ∧ z = 114 ∧ M' = M) ∨ (w = 100 ∧ M 492 b ≠ 0 ∧ z = 32 ∧ M' = up M 492 a (dv (M 492 a) (M 492 b))) ∨ (w = 115 ∧ z = 32 ∧ M' = up M 492 a b) ∨ (w = 97 ∧ z = 32 ∧ M' = up M 492 a (wr (M 492 a + M 492 b))) ∨ (w = 109 ∧ z = 32 ∧ M' = up M 492 a (wr (M 492 a * M 492 b)))))) 10 [(0, rv g 468), (1, iv w), (2, iv a), (3, iv b)] [rv g 492] M
    refine x_iload_n 3 dX9_reckons_10 rfl rfl ?_
    refine x_iald dX9_reckons_11 k18 (by omega) (by omega) (by decide) (fun ⟨a19, a19'⟩ => ?_)
    refine x_if_ne (tgt := 18) dX9_reckons_12 (by decide) ⟨by omega, by omega⟩ (fun c20 => ?_) (fun c20 => ?_)
    · refine x_iload_n 1 dX9_reckons_18 rfl rfl ?_
      refine x_bipush (115) dX9_reckons_19 rfl ?_
      refine x_icmp_ne (tgt := 34) dX9_reckons_21 (by decide) ⟨by omega, by omega⟩ ⟨by decide, by decide⟩ (fun c21 => ?_) (fun c21 => ?_)
      · refine x_iload_n 1 dX9_reckons_34 rfl rfl ?_
        refine x_bipush (97) dX9_reckons_35 rfl ?_
        refine x_icmp_ne (tgt := 58) dX9_reckons_37 (by decide) ⟨by omega, by omega⟩ ⟨by decide, by decide⟩ (fun c22 => ?_) (fun c22 => ?_)
        · refine x_iload_n 1 dX9_reckons_58 rfl rfl ?_
          refine x_bipush (109) dX9_reckons_59 rfl ?_
          refine x_icmp_ne (tgt := 82) dX9_reckons_61 (by decide) ⟨by omega, by omega⟩ ⟨by decide, by decide⟩ (fun c23 => ?_) (fun c23 => ?_)
          · refine x_aload_n 0 dX9_reckons_82 rfl rfl ?_
            refine x_getr (k := 30) (d := 24) dX9_reckons_83 fl9_80 k_468 rfl (fun k24 => ?_)
            have k24 : isK 20 4 492 := k24
            show Ok g mX9_reckons (rmd 0) (FQ g (pI (fun z M' => (w = 100 ∧ M 492 b = 0 ∧ z = 114 ∧ M' = M) ∨ (w = 100 ∧ M 492 b ≠ 0 ∧ z = 32 ∧ M' = up M 492 a (dv (M 492 a) (M 492 b))) ∨ (w = 115 ∧ z = 32 ∧ M' = up M 492 a b) ∨ (w = 97 ∧ z = 32 ∧ M' = up M 492 a (wr (M 492 a + M 492 b))) ∨ (w = 109 ∧ z = 32 ∧ M' = up M 492 a (wr (M 492 a * M 492 b)))))) 86 [(0, rv g 468), (1, iv w), (2, iv a), (3, iv b)] [rv g 492] M
            refine x_iload_n 2 dX9_reckons_86 rfl rfl ?_
            refine x_dup2 dX9_reckons_87 rfl rfl ?_
            refine x_iald dX9_reckons_88 k24 (by omega) (by omega) (by decide) (fun ⟨a25, a25'⟩ => ?_)
            refine x_aload_n 0 dX9_reckons_89 rfl rfl ?_
            refine x_getr (k := 30) (d := 24) dX9_reckons_90 fl9_80 k_468 rfl (fun k26 => ?_)
            have k26 : isK 20 4 492 := k26
            show Ok g mX9_reckons (rmd 0) (FQ g (pI (fun z M' => (w = 100 ∧ M 492 b = 0 ∧ z = 114 ∧ M' = M) ∨ (w = 100 ∧ M 492 b ≠ 0 ∧ z = 32 ∧ M' = up M 492 a (dv (M 492 a) (M 492 b))) ∨ (w = 115 ∧ z = 32 ∧ M' = up M 492 a b) ∨ (w = 97 ∧ z = 32 ∧ M' = up M 492 a (wr (M 492 a + M 492 b))) ∨ (w = 109 ∧ z = 32 ∧ M' = up M 492 a (wr (M 492 a * M 492 b)))))) 93 [(0, rv g 468), (1, iv w), (2, iv a), (3, iv b)] [rv g 492, iv (M 492 a), iv a, rv g 492] M
            refine x_iload_n 3 dX9_reckons_93 rfl rfl ?_
            refine x_iald dX9_reckons_94 k26 (by omega) (by omega) (by decide) (fun ⟨a27, a27'⟩ => ?_)
            refine x_idivw dX9_reckons_95 ⟨by omega, by omega⟩ (by omega) ?_
            refine x_iast dX9_reckons_96 k24 (by omega) (by omega) (by decide) (rg_dv _ _) ?_
            refine x_bipush (32) dX9_reckons_97 rfl ?_
            refine x_iret dX9_reckons_99 rfl (iZ_char (by omega) (by omega)) ?_
            exact ⟨_, rfl, Or.inr (Or.inl ⟨by omega, by omega, rfl, rfl⟩)⟩
          · refine x_aload_n 0 dX9_reckons_64 rfl rfl ?_
            refine x_getr (k := 30) (d := 24) dX9_reckons_65 fl9_80 k_468 rfl (fun k28 => ?_)
            have k28 : isK 20 4 492 := k28
            show Ok g mX9_reckons (rmd 0) (FQ g (pI (fun z M' => (w = 100 ∧ M 492 b = 0 ∧ z = 114 ∧ M' = M) ∨ (w = 100 ∧ M 492 b ≠ 0 ∧ z = 32 ∧ M' = up M 492 a (dv (M 492 a) (M 492 b))) ∨ (w = 115 ∧ z = 32 ∧ M' = up M 492 a b) ∨ (w = 97 ∧ z = 32 ∧ M' = up M 492 a (wr (M 492 a + M 492 b))) ∨ (w = 109 ∧ z = 32 ∧ M' = up M 492 a (wr (M 492 a * M 492 b)))))) 68 [(0, rv g 468), (1, iv w), (2, iv a), (3, iv b)] [rv g 492] M
            refine x_iload_n 2 dX9_reckons_68 rfl rfl ?_
            refine x_dup2 dX9_reckons_69 rfl rfl ?_
            refine x_iald dX9_reckons_70 k28 (by omega) (by omega) (by decide) (fun ⟨a29, a29'⟩ => ?_)
            refine x_aload_n 0 dX9_reckons_71 rfl rfl ?_
            refine x_getr (k := 30) (d := 24) dX9_reckons_72 fl9_80 k_468 rfl (fun k30 => ?_)
            have k30 : isK 20 4 492 := k30
            show Ok g mX9_reckons (rmd 0) (FQ g (pI (fun z M' => (w = 100 ∧ M 492 b = 0 ∧ z = 114 ∧ M' = M) ∨ (w = 100 ∧ M 492 b ≠ 0 ∧ z = 32 ∧ M' = up M 492 a (dv (M 492 a) (M 492 b))) ∨ (w = 115 ∧ z = 32 ∧ M' = up M 492 a b) ∨ (w = 97 ∧ z = 32 ∧ M' = up M 492 a (wr (M 492 a + M 492 b))) ∨ (w = 109 ∧ z = 32 ∧ M' = up M 492 a (wr (M 492 a * M 492 b)))))) 75 [(0, rv g 468), (1, iv w), (2, iv a), (3, iv b)] [rv g 492, iv (M 492 a), iv a, rv g 492] M
            refine x_iload_n 3 dX9_reckons_75 rfl rfl ?_
            refine x_iald dX9_reckons_76 k30 (by omega) (by omega) (by decide) (fun ⟨a31, a31'⟩ => ?_)
            refine x_imulw dX9_reckons_77 ?_
            refine x_iast dX9_reckons_78 k28 (by omega) (by omega) (by decide) (rg_wr _) ?_
            refine x_goto (tgt := 97) dX9_reckons_79 (by decide) ?_
            refine x_bipush (32) dX9_reckons_97 rfl ?_
            refine x_iret dX9_reckons_99 rfl (iZ_char (by omega) (by omega)) ?_
            exact ⟨_, rfl, Or.inr (Or.inr (Or.inr (Or.inr ⟨by omega, rfl, rfl⟩)))⟩
        · refine x_aload_n 0 dX9_reckons_40 rfl rfl ?_
          refine x_getr (k := 30) (d := 24) dX9_reckons_41 fl9_80 k_468 rfl (fun k32 => ?_)
          have k32 : isK 20 4 492 := k32
          show Ok g mX9_reckons (rmd 0) (FQ g (pI (fun z M' => (w = 100 ∧ M 492 b = 0 ∧ z = 114 ∧ M' = M) ∨ (w = 100 ∧ M 492 b ≠ 0 ∧ z = 32 ∧ M' = up M 492 a (dv (M 492 a) (M 492 b))) ∨ (w = 115 ∧ z = 32 ∧ M' = up M 492 a b) ∨ (w = 97 ∧ z = 32 ∧ M' = up M 492 a (wr (M 492 a + M 492 b))) ∨ (w = 109 ∧ z = 32 ∧ M' = up M 492 a (wr (M 492 a * M 492 b)))))) 44 [(0, rv g 468), (1, iv w), (2, iv a), (3, iv b)] [rv g 492] M
          refine x_iload_n 2 dX9_reckons_44 rfl rfl ?_
          refine x_dup2 dX9_reckons_45 rfl rfl ?_
          refine x_iald dX9_reckons_46 k32 (by omega) (by omega) (by decide) (fun ⟨a33, a33'⟩ => ?_)
          refine x_aload_n 0 dX9_reckons_47 rfl rfl ?_
          refine x_getr (k := 30) (d := 24) dX9_reckons_48 fl9_80 k_468 rfl (fun k34 => ?_)
          have k34 : isK 20 4 492 := k34
          show Ok g mX9_reckons (rmd 0) (FQ g (pI (fun z M' => (w = 100 ∧ M 492 b = 0 ∧ z = 114 ∧ M' = M) ∨ (w = 100 ∧ M 492 b ≠ 0 ∧ z = 32 ∧ M' = up M 492 a (dv (M 492 a) (M 492 b))) ∨ (w = 115 ∧ z = 32 ∧ M' = up M 492 a b) ∨ (w = 97 ∧ z = 32 ∧ M' = up M 492 a (wr (M 492 a + M 492 b))) ∨ (w = 109 ∧ z = 32 ∧ M' = up M 492 a (wr (M 492 a * M 492 b)))))) 51 [(0, rv g 468), (1, iv w), (2, iv a), (3, iv b)] [rv g 492, iv (M 492 a), iv a, rv g 492] M
          refine x_iload_n 3 dX9_reckons_51 rfl rfl ?_
          refine x_iald dX9_reckons_52 k34 (by omega) (by omega) (by decide) (fun ⟨a35, a35'⟩ => ?_)
          refine x_iaddw dX9_reckons_53 ?_
          refine x_iast dX9_reckons_54 k32 (by omega) (by omega) (by decide) (rg_wr _) ?_
          refine x_goto (tgt := 97) dX9_reckons_55 (by decide) ?_
          refine x_bipush (32) dX9_reckons_97 rfl ?_
          refine x_iret dX9_reckons_99 rfl (iZ_char (by omega) (by omega)) ?_
          exact ⟨_, rfl, Or.inr (Or.inr (Or.inr (Or.inl ⟨by omega, rfl, rfl⟩)))⟩
      · refine x_aload_n 0 dX9_reckons_24 rfl rfl ?_
        refine x_getr (k := 30) (d := 24) dX9_reckons_25 fl9_80 k_468 rfl (fun k36 => ?_)
        have k36 : isK 20 4 492 := k36
        show Ok g mX9_reckons (rmd 0) (FQ g (pI (fun z M' => (w = 100 ∧ M 492 b = 0 ∧ z = 114 ∧ M' = M) ∨ (w = 100 ∧ M 492 b ≠ 0 ∧ z = 32 ∧ M' = up M 492 a (dv (M 492 a) (M 492 b))) ∨ (w = 115 ∧ z = 32 ∧ M' = up M 492 a b) ∨ (w = 97 ∧ z = 32 ∧ M' = up M 492 a (wr (M 492 a + M 492 b))) ∨ (w = 109 ∧ z = 32 ∧ M' = up M 492 a (wr (M 492 a * M 492 b)))))) 28 [(0, rv g 468), (1, iv w), (2, iv a), (3, iv b)] [rv g 492] M
        refine x_iload_n 2 dX9_reckons_28 rfl rfl ?_
        refine x_iload_n 3 dX9_reckons_29 rfl rfl ?_
        refine x_iast dX9_reckons_30 k36 (by omega) (by omega) (by decide) ⟨by omega, by omega⟩ ?_
        refine x_goto (tgt := 97) dX9_reckons_31 (by decide) ?_
        refine x_bipush (32) dX9_reckons_97 rfl ?_
        refine x_iret dX9_reckons_99 rfl (iZ_char (by omega) (by omega)) ?_
        exact ⟨_, rfl, Or.inr (Or.inr (Or.inl ⟨by omega, rfl, rfl⟩))⟩
    · refine x_bipush (114) dX9_reckons_15 rfl ?_
      refine x_iret dX9_reckons_17 rfl (iZ_char (by omega) (by omega)) ?_
      exact ⟨_, rfl, Or.inl ⟨by omega, by omega, rfl, rfl⟩⟩

set_option maxHeartbeats 600000 in
set_option maxRecDepth 100000 in
theorem c_X9_isExpected (g : GG) (M : Mem) (r t : Int) (r0 : 0 ≤ r) (r1 : r < 40) (p0 : 0 ≤ M 482 r) (p1 : M 482 r < 5) (t0 : 0 ≤ t) (t1 : t < 6) (e0 : 0 ≤ M 480 (6 * M 482 r + t)) (e1 : M 480 (6 * M 482 r + t) ≤ 6) (n0 : 0 ≤ M 491 (6 * r + t)) (n1 : M 491 (6 * r + t) ≤ 6) : Ct g yX9_isExpected cX9_isExpected 6 (some .boolean) 0 [rv g 468, iv r, iv t] M (pIP (fun z => (z = 1 ∧ ((M 491 (6 * r + t)) = (M 480 (6 * (M 482 (r)) + t)) ∧ ∀ k, 0 ≤ k → k < (M 491 (6 * r + t)) → (M 490 (36 * r + 6 * t + k)) = (M 479 (36 * (M 482 (r)) + 6 * t + k)))) ∨ (z = 0 ∧ ¬ ((M 491 (6 * r + t)) = (M 480 (6 * (M 482 (r)) + t)) ∧ ∀ k, 0 ≤ k → k < (M 491 (6 * r + t)) → (M 490 (36 * r + 6 * t + k)) = (M 479 (36 * (M 482 (r)) + 6 * t + k))))) M) := by
  refine ct_of (by decide +kernel) (Nat.le_of_ble_eq_true rfl) ?_
  show Ok g mX9_isExpected (rmd 0) (FQ g (pIP (fun z => (z = 1 ∧ ((M 491 (6 * r + t)) = (M 480 (6 * (M 482 (r)) + t)) ∧ ∀ k, 0 ≤ k → k < (M 491 (6 * r + t)) → (M 490 (36 * r + 6 * t + k)) = (M 479 (36 * (M 482 (r)) + 6 * t + k)))) ∨ (z = 0 ∧ ¬ ((M 491 (6 * r + t)) = (M 480 (6 * (M 482 (r)) + t)) ∧ ∀ k, 0 ≤ k → k < (M 491 (6 * r + t)) → (M 490 (36 * r + 6 * t + k)) = (M 479 (36 * (M 482 (r)) + 6 * t + k))))) M)) 0 [(0, rv g 468), (1, iv r), (2, iv t)] [] M
  have h_42 : ∀ (n_42 : Nat) (b : Int) (k : Int), (0 ≤ k) → (k ≤ (M 491 (6 * r + t))) → ((b = 1 ∧ (M 491 (6 * r + t)) = (M 480 (6 * (M 482 (r)) + t)) ∧ ∀ k1, 0 ≤ k1 → k1 < k → (M 490 (36 * r + 6 * t + k1)) = (M 479 (36 * (M 482 (r)) + 6 * t + k1))) ∨ (b = 0 ∧ ¬ ((M 491 (6 * r + t)) = (M 480 (6 * (M 482 (r)) + t)) ∧ ∀ k, 0 ≤ k → k < (M 491 (6 * r + t)) → (M 490 (36 * r + 6 * t + k)) = (M 479 (36 * (M 482 (r)) + 6 * t + k))))) → ((M 491 (6 * r + t)) - k).toNat < n_42 → Ok g mX9_isExpected (rmd 0) (FQ g (pIP (fun z => (z = 1 ∧ ((M 491 (6 * r + t)) = (M 480 (6 * (M 482 (r)) + t)) ∧ ∀ k, 0 ≤ k → k < (M 491 (6 * r + t)) → (M 490 (36 * r + 6 * t + k)) = (M 479 (36 * (M 482 (r)) + 6 * t + k)))) ∨ (z = 0 ∧ ¬ ((M 491 (6 * r + t)) = (M 480 (6 * (M 482 (r)) + t)) ∧ ∀ k, 0 ≤ k → k < (M 491 (6 * r + t)) → (M 490 (36 * r + 6 * t + k)) = (M 479 (36 * (M 482 (r)) + 6 * t + k))))) M)) 42 [(0, rv g 468), (1, iv r), (2, iv t), (3, iv ((M 482 (r)))), (4, iv b), (5, iv k)] [] M := by
    intro n_42
    induction n_42 with
    | zero => intro b k j0 j1 j2 hn_42; exact absurd hn_42 (Nat.not_lt_zero _)
    | succ n_42 ih_42 =>
      intro b k j0 j1 j2 hn_42
      refine x_iload 5 dX9_isExpected_42 rfl ?_
      refine x_aload_n 0 dX9_isExpected_44 rfl rfl ?_
      refine x_getr (k := 29) (d := 23) dX9_isExpected_45 fl9_77 k_468 rfl (fun k1 => ?_)
      have k1 : isK 20 240 491 := k1
      show Ok g mX9_isExpected (rmd 0) (FQ g (pIP (fun z => (z = 1 ∧ ((M 491 (6 * r + t)) = (M 480 (6 * (M 482 (r)) + t)) ∧ ∀ k, 0 ≤ k → k < (M 491 (6 * r + t)) → (M 490 (36 * r + 6 * t + k)) = (M 479 (36 * (M 482 (r)) + 6 * t + k)))) ∨ (z = 0 ∧ ¬ ((M 491 (6 * r + t)) = (M 480 (6 * (M 482 (r)) + t)) ∧ ∀ k, 0 ≤ k → k < (M 491 (6 * r + t)) → (M 490 (36 * r + 6 * t + k)) = (M 479 (36 * (M 482 (r)) + 6 * t + k))))) M)) 48 [(0, rv g 468), (1, iv r), (2, iv t), (3, iv ((M 482 (r)))), (4, iv b), (5, iv k)] [rv g 491, iv k] M
      refine x_bipush (6) dX9_isExpected_48 rfl ?_
      refine x_iload_n 1 dX9_isExpected_50 rfl rfl ?_
      refine x_imul dX9_isExpected_51 ?_
      refine x_iload_n 2 dX9_isExpected_52 rfl rfl ?_
      refine x_iadd dX9_isExpected_53 ?_
      refine x_iald dX9_isExpected_54 k1 (by omega) (by omega) (by decide) (fun ⟨a2, a2'⟩ => ?_)
      refine x_icmp_ge (tgt := 113) dX9_isExpected_55 (by decide) ⟨by omega, by omega⟩ ⟨by omega, by omega⟩ (fun c3 => ?_) (fun c3 => ?_)
      · refine x_iload 4 dX9_isExpected_113 rfl ?_
        refine x_iret dX9_isExpected_115 rfl (iZ_bool (by omega)) ?_
        refine ⟨_, rfl, rfl, ?_⟩
        rcases j2 with ⟨e1, e2, e3⟩ | ⟨e1, e2⟩
        · left; exact ⟨e1, e2, fun k1 k2 k3 => e3 k1 k2 (by omega)⟩
        · right; exact ⟨e1, e2⟩
      · refine x_iload 4 dX9_isExpected_58 rfl ?_
        refine x_if_eq (tgt := 113) dX9_isExpected_60 (by decide) ⟨by omega, by omega⟩ (fun c4 => ?_) (fun c4 => ?_)
        · refine x_iload 4 dX9_isExpected_113 rfl ?_
          refine x_iret dX9_isExpected_115 rfl (iZ_bool (by omega)) ?_
          refine ⟨_, rfl, rfl, ?_⟩
          rcases j2 with ⟨e1, e2, e3⟩ | ⟨e1, e2⟩
          · left; exact ⟨e1, e2, fun k1 k2 k3 => e3 k1 k2 (by omega)⟩
          · right; exact ⟨e1, e2⟩
        · refine x_aload_n 0 dX9_isExpected_63 rfl rfl ?_
          refine x_getr (k := 28) (d := 22) dX9_isExpected_64 fl9_74 k_468 rfl (fun k5 => ?_)
          have k5 : isK 20 1440 490 := k5
          show Ok g mX9_isExpected (rmd 0) (FQ g (pIP (fun z => (z = 1 ∧ ((M 491 (6 * r + t)) = (M 480 (6 * (M 482 (r)) + t)) ∧ ∀ k, 0 ≤ k → k < (M 491 (6 * r + t)) → (M 490 (36 * r + 6 * t + k)) = (M 479 (36 * (M 482 (r)) + 6 * t + k)))) ∨ (z = 0 ∧ ¬ ((M 491 (6 * r + t)) = (M 480 (6 * (M 482 (r)) + t)) ∧ ∀ k, 0 ≤ k → k < (M 491 (6 * r + t)) → (M 490 (36 * r + 6 * t + k)) = (M 479 (36 * (M 482 (r)) + 6 * t + k))))) M)) 67 [(0, rv g 468), (1, iv r), (2, iv t), (3, iv ((M 482 (r)))), (4, iv b), (5, iv k)] [rv g 490] M
          refine x_bipush (36) dX9_isExpected_67 rfl ?_
          refine x_iload_n 1 dX9_isExpected_69 rfl rfl ?_
          refine x_imul dX9_isExpected_70 ?_
          refine x_bipush (6) dX9_isExpected_71 rfl ?_
          refine x_iload_n 2 dX9_isExpected_73 rfl rfl ?_
          refine x_imul dX9_isExpected_74 ?_
          refine x_iadd dX9_isExpected_75 ?_
          refine x_iload 5 dX9_isExpected_76 rfl ?_
          refine x_iadd dX9_isExpected_78 ?_
          refine x_iald dX9_isExpected_79 k5 (by omega) (by omega) (by decide) (fun ⟨a6, a6'⟩ => ?_)
          refine x_aload_n 0 dX9_isExpected_80 rfl rfl ?_
          refine x_getr (k := 15) (d := 11) dX9_isExpected_81 fl9_41 k_468 rfl (fun k7 => ?_)
          have k7 : isK 20 180 479 := k7
          show Ok g mX9_isExpected (rmd 0) (FQ g (pIP (fun z => (z = 1 ∧ ((M 491 (6 * r + t)) = (M 480 (6 * (M 482 (r)) + t)) ∧ ∀ k, 0 ≤ k → k < (M 491 (6 * r + t)) → (M 490 (36 * r + 6 * t + k)) = (M 479 (36 * (M 482 (r)) + 6 * t + k)))) ∨ (z = 0 ∧ ¬ ((M 491 (6 * r + t)) = (M 480 (6 * (M 482 (r)) + t)) ∧ ∀ k, 0 ≤ k → k < (M 491 (6 * r + t)) → (M 490 (36 * r + 6 * t + k)) = (M 479 (36 * (M 482 (r)) + 6 * t + k))))) M)) 84 [(0, rv g 468), (1, iv r), (2, iv t), (3, iv ((M 482 (r)))), (4, iv b), (5, iv k)] [rv g 479, iv (M 490 (((36 * r) + (6 * t)) + k))] M
          refine x_bipush (36) dX9_isExpected_84 rfl ?_
          refine x_iload_n 3 dX9_isExpected_86 rfl rfl ?_
          refine x_imul dX9_isExpected_87 ?_
          refine x_bipush (6) dX9_isExpected_88 rfl ?_
          refine x_iload_n 2 dX9_isExpected_90 rfl rfl ?_
          refine x_imul dX9_isExpected_91 ?_
          refine x_iadd dX9_isExpected_92 ?_
          refine x_iload 5 dX9_isExpected_93 rfl ?_
          refine x_iadd dX9_isExpected_95 ?_
          refine x_iald dX9_isExpected_96 k7 (by omega) (by omega) (by decide) (fun ⟨a8, a8'⟩ => ?_)
          refine x_icmp_ne (tgt := 104) dX9_isExpected_97 (by decide) ⟨by omega, by omega⟩ ⟨by omega, by omega⟩ (fun c9 => ?_) (fun c9 => ?_)
          · refine x_iconst (0) dX9_isExpected_104 rfl ?_
            refine x_istore (lv' := [(4, iv 0), (0, rv g 468), (1, iv r), (2, iv t), (3, iv ((M 482 (r)))), (5, iv k)]) dX9_isExpected_105 (Nat.le_of_ble_eq_true rfl) rfl ?_
            refine x_iinc (z := k) (lv' := [(5, iv (k + 1)), (4, iv 0), (0, rv g 468), (1, iv r), (2, iv t), (3, iv ((M 482 (r))))]) 5 dX9_isExpected_107 rfl (Nat.le_of_ble_eq_true rfl) rfl ?_
            refine x_goto (tgt := 42) dX9_isExpected_110 (by decide) ?_
            refine x_sub [2, 3, 4, 5, 1, 0] rfl ?_
            exact ih_42 _ _ (by omega) (by omega) (by right; exact ⟨rfl, fun e => by have := e.2 k (by omega) (by omega); omega⟩) (by omega)
          · refine x_iconst (1) dX9_isExpected_100 rfl ?_
            refine x_goto (tgt := 105) dX9_isExpected_101 (by decide) ?_
            refine x_istore (lv' := [(4, iv 1), (0, rv g 468), (1, iv r), (2, iv t), (3, iv ((M 482 (r)))), (5, iv k)]) dX9_isExpected_105 (Nat.le_of_ble_eq_true rfl) rfl ?_
            refine x_iinc (z := k) (lv' := [(5, iv (k + 1)), (4, iv 1), (0, rv g 468), (1, iv r), (2, iv t), (3, iv ((M 482 (r))))]) 5 dX9_isExpected_107 rfl (Nat.le_of_ble_eq_true rfl) rfl ?_
            refine x_goto (tgt := 42) dX9_isExpected_110 (by decide) ?_
            refine x_sub [2, 3, 4, 5, 1, 0] rfl ?_
            exact ih_42 _ _ (by omega) (by omega) (by rcases j2 with ⟨_, e2, e3⟩ | ⟨e1, _⟩; left; exact ⟨rfl, e2, ext_lt e3 (by assumption)⟩; omega) (by omega)
  refine x_aload_n 0 dX9_isExpected_0 rfl rfl ?_
  refine x_getr (k := 20) (d := 14) dX9_isExpected_1 fl9_50 k_468 rfl (fun k10 => ?_)
  have k10 : isK 20 40 482 := k10
  show Ok g mX9_isExpected (rmd 0) (FQ g (pIP (fun z => (z = 1 ∧ ((M 491 (6 * r + t)) = (M 480 (6 * (M 482 (r)) + t)) ∧ ∀ k, 0 ≤ k → k < (M 491 (6 * r + t)) → (M 490 (36 * r + 6 * t + k)) = (M 479 (36 * (M 482 (r)) + 6 * t + k)))) ∨ (z = 0 ∧ ¬ ((M 491 (6 * r + t)) = (M 480 (6 * (M 482 (r)) + t)) ∧ ∀ k, 0 ≤ k → k < (M 491 (6 * r + t)) → (M 490 (36 * r + 6 * t + k)) = (M 479 (36 * (M 482 (r)) + 6 * t + k))))) M)) 4 [(0, rv g 468), (1, iv r), (2, iv t)] [rv g 482] M
  refine x_iload_n 1 dX9_isExpected_4 rfl rfl ?_
  refine x_iald dX9_isExpected_5 k10 (by omega) (by omega) (by decide) (fun ⟨a11, a11'⟩ => ?_)
  refine x_istore_n (lv' := [(3, iv (M 482 r)), (0, rv g 468), (1, iv r), (2, iv t)]) dX9_isExpected_6 rfl (Nat.le_of_ble_eq_true rfl) rfl ?_
  refine x_aload_n 1 dX9_isExpected_7 rfl rfl ?_
  refine x_getr (k := 29) (d := 23) dX9_isExpected_8 fl9_77 k_468 rfl (fun k12 => ?_)
  have k12 : isK 20 240 491 := k12
  show Ok g mX9_isExpected (rmd 0) (FQ g (pIP (fun z => (z = 1 ∧ ((M 491 (6 * r + t)) = (M 480 (6 * (M 482 (r)) + t)) ∧ ∀ k, 0 ≤ k → k < (M 491 (6 * r + t)) → (M 490 (36 * r + 6 * t + k)) = (M 479 (36 * (M 482 (r)) + 6 * t + k)))) ∨ (z = 0 ∧ ¬ ((M 491 (6 * r + t)) = (M 480 (6 * (M 482 (r)) + t)) ∧ ∀ k, 0 ≤ k → k < (M 491 (6 * r + t)) → (M 490 (36 * r + 6 * t + k)) = (M 479 (36 * (M 482 (r)) + 6 * t + k))))) M)) 11 [(3, iv (M 482 r)), (0, rv g 468), (1, iv r), (2, iv t)] [rv g 491] M
  refine x_bipush (6) dX9_isExpected_11 rfl ?_
  refine x_iload_n 2 dX9_isExpected_13 rfl rfl ?_
  refine x_imul dX9_isExpected_14 ?_
  refine x_iload_n 3 dX9_isExpected_15 rfl rfl ?_
  refine x_iadd dX9_isExpected_16 ?_
  refine x_iald dX9_isExpected_17 k12 (by omega) (by omega) (by decide) (fun ⟨a13, a13'⟩ => ?_)
  refine x_aload_n 1 dX9_isExpected_18 rfl rfl ?_
  refine x_getr (k := 16) (d := 12) dX9_isExpected_19 fl9_44 k_468 rfl (fun k14 => ?_)
  have k14 : isK 20 30 480 := k14
  show Ok g mX9_isExpected (rmd 0) (FQ g (pIP (fun z => (z = 1 ∧ ((M 491 (6 * r + t)) = (M 480 (6 * (M 482 (r)) + t)) ∧ ∀ k, 0 ≤ k → k < (M 491 (6 * r + t)) → (M 490 (36 * r + 6 * t + k)) = (M 479 (36 * (M 482 (r)) + 6 * t + k)))) ∨ (z = 0 ∧ ¬ ((M 491 (6 * r + t)) = (M 480 (6 * (M 482 (r)) + t)) ∧ ∀ k, 0 ≤ k → k < (M 491 (6 * r + t)) → (M 490 (36 * r + 6 * t + k)) = (M 479 (36 * (M 482 (r)) + 6 * t + k))))) M)) 22 [(3, iv (M 482 r)), (0, rv g 468), (1, iv r), (2, iv t)] [rv g 480, iv (M 491 ((6 * r) + t))] M
  refine x_bipush (6) dX9_isExpected_22 rfl ?_
  refine x_iload_n 0 dX9_isExpected_24 rfl rfl ?_
  refine x_imul dX9_isExpected_25 ?_
  refine x_iload_n 3 dX9_isExpected_26 rfl rfl ?_
  refine x_iadd dX9_isExpected_27 ?_
  refine x_iald dX9_isExpected_28 k14 (by omega) (by omega) (by decide) (fun ⟨a15, a15'⟩ => ?_)
  refine x_icmp_ne (tgt := 36) dX9_isExpected_29 (by decide) ⟨by omega, by omega⟩ ⟨by omega, by omega⟩ (fun c16 => ?_) (fun c16 => ?_)
  · refine x_iconst (0) dX9_isExpected_36 rfl ?_
    refine x_istore (lv' := [(4, iv 0), (3, iv (M 482 r)), (0, rv g 468), (1, iv r), (2, iv t)]) dX9_isExpected_37 (Nat.le_of_ble_eq_true rfl) rfl ?_
    refine x_iconst (0) dX9_isExpected_39 rfl ?_
    refine x_istore (lv' := [(5, iv 0), (4, iv 0), (3, iv (M 482 r)), (0, rv g 468), (1, iv r), (2, iv t)]) dX9_isExpected_40 (Nat.le_of_ble_eq_true rfl) rfl ?_
    refine x_sub [3, 4, 5, 2, 1, 0] rfl ?_
    exact h_42 _ _ _ (by omega) (by omega) (by right; exact ⟨rfl, fun e => by have := e.1; omega⟩) (Nat.lt_succ_self _)
  · refine x_iconst (1) dX9_isExpected_32 rfl ?_
    refine x_goto (tgt := 37) dX9_isExpected_33 (by decide) ?_
    refine x_istore (lv' := [(4, iv 1), (3, iv (M 482 r)), (0, rv g 468), (1, iv r), (2, iv t)]) dX9_isExpected_37 (Nat.le_of_ble_eq_true rfl) rfl ?_
    refine x_iconst (0) dX9_isExpected_39 rfl ?_
    refine x_istore (lv' := [(5, iv 0), (4, iv 1), (3, iv (M 482 r)), (0, rv g 468), (1, iv r), (2, iv t)]) dX9_isExpected_40 (Nat.le_of_ble_eq_true rfl) rfl ?_
    refine x_sub [3, 4, 5, 2, 1, 0] rfl ?_
    exact h_42 _ _ _ (by omega) (by omega) (by left; exact ⟨rfl, by omega, fun k1 _ _ => by omega⟩) (Nat.lt_succ_self _)
