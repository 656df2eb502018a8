set_option maxHeartbeats 600000 in
set_option maxRecDepth 100000 in
theorem c_X9_sends (g : GG) (M : Mem) (t p : Int) (b : BSt) (I : RB M) (t0 : 0 ≤ t) (t1 : t < M 468 17) (p0 : 0 ≤ p) (p1 : p < M 468 9) (hb : RBb M (M 474 p) b) (hq : QS 1000000 b) (hst : M 468 34 ≤ 99999) : Ct g yX9_sends cX9_sends 3 none 3 [rv g 468, iv t, iv p] M (pV (fun M' => ∃ b', BMV M (M 474 p) b' 1 M' ∧ ((b.1 (5 * t + p) = 45 ∧ Sol M t p ∧ b' = SNo (5 * t + p) b) ∨ (¬ (b.1 (5 * t + p) = 45 ∧ Sol M t p) ∧ b' = b)))) := by
  refine ct_of (by decide +kernel) (Nat.le_of_ble_eq_true rfl) ?_
  show Ok g mX9_sends (rmd 3) (FQ g (pV (fun M' => ∃ b', BMV M (M 474 p) b' 1 M' ∧ ((b.1 (5 * t + p) = 45 ∧ Sol M t p ∧ b' = SNo (5 * t + p) b) ∨ (¬ (b.1 (5 * t + p) = 45 ∧ Sol M t p) ∧ b' = b))))) 0 [(0, rv g 468), (1, iv t), (2, iv p)] [] M
  have i0 := I.rng
  have i1 := I.prob p p0 p1
  have i2 := I.stamp.1
  have i3 := hb.1 (5 * t + p) (by omega) (by omega)
  have i4 : CP M (M 474 p) (5 * t + p) := ⟨by omega, by omega, by omega, by rw [show (5 * t + p) % 5 = p by omega]⟩
  refine x_aload_n 0 dX9_sends_0 rfl rfl ?_
  refine x_getr (k := 31) (d := 25) dX9_sends_1 fl9_83 k_468 rfl (fun k1 => ?_)
  have k1 : isK 21 40 493 := k1
  show Ok g mX9_sends (rmd 3) (FQ g (pV (fun M' => ∃ b', BMV M (M 474 p) b' 1 M' ∧ ((b.1 (5 * t + p) = 45 ∧ Sol M t p ∧ b' = SNo (5 * t + p) b) ∨ (¬ (b.1 (5 * t + p) = 45 ∧ Sol M t p) ∧ b' = b))))) 4 [(0, rv g 468), (1, iv t), (2, iv p)] [rv g 493] M
  refine x_iconst (5) dX9_sends_4 rfl ?_
  refine x_iload_n 1 dX9_sends_5 rfl rfl ?_
  refine x_imul dX9_sends_6 ?_
  refine x_iload_n 2 dX9_sends_7 rfl rfl ?_
  refine x_iadd dX9_sends_8 ?_
  refine x_cald dX9_sends_9 k1 (by omega) (by omega) (by decide) (fun ⟨a2, a2'⟩ => ?_)
  refine x_bipush (45) dX9_sends_10 rfl ?_
  refine x_icmp_ne (tgt := 24) dX9_sends_12 (by decide) ⟨by omega, by omega⟩ ⟨by decide, by decide⟩ (fun c3 => ?_) (fun c3 => ?_)
  · refine x_vret dX9_sends_24 rfl ?_
    exact ⟨rfl, b, (BMV.rfl' I hb).mono (by omega), Or.inr ⟨fun w => by have := w.1; omega, rfl⟩⟩
  · refine x_aload_n 0 dX9_sends_15 rfl rfl ?_
    refine x_iload_n 1 dX9_sends_16 rfl rfl ?_
    refine x_iload_n 2 dX9_sends_17 rfl rfl ?_
    refine x_callVIP (as := [iv t, iv p]) (rest := []) dX9_sends_18 vl9_171 k_468 (c_X9_hasSolved g M t p I t0 (by omega) p0 (by omega)) rfl rfl (Nat.le_of_ble_eq_true rfl) ⟨Nat.le_of_ble_eq_true rfl, Nat.le_of_ble_eq_true rfl⟩ (fun z4 h5 => ?_)
    have hs := h5
    refine x_if_ne (tgt := 25) dX9_sends_21 (by decide) ⟨by omega, by omega⟩ (fun c7 => ?_) (fun c7 => ?_)
    · refine x_aload_n 0 dX9_sends_25 rfl rfl ?_
      refine x_dup dX9_sends_26 rfl ?_
      refine x_geti (k := 34) (kI := 34) dX9_sends_27 fl9_183 k_468 rfl rfl (fun ⟨a8, a8'⟩ => ?_)
      refine x_iconst (1) dX9_sends_30 rfl ?_
      refine x_iadd dX9_sends_31 ?_
      refine x_puti (k := 34) (kI := 34) dX9_sends_32 fw9_183 k_468 rfl ⟨by omega, by omega⟩ rfl rfl rfl ?_
      refine x_aload_n 0 dX9_sends_35 rfl rfl ?_
      refine x_getr (k := 32) (d := 26) dX9_sends_36 fl9_86 k_468 rfl (fun k9 => ?_)
      have k9 : isK 20 40 494 := k9
      show Ok g mX9_sends (rmd 3) (FQ g (pV (fun M' => ∃ b', BMV M (M 474 p) b' 1 M' ∧ ((b.1 (5 * t + p) = 45 ∧ Sol M t p ∧ b' = SNo (5 * t + p) b) ∨ (¬ (b.1 (5 * t + p) = 45 ∧ Sol M t p) ∧ b' = b))))) 39 [(0, rv g 468), (1, iv t), (2, iv p)] [rv g 494] (up M 468 34 ((M 468 34) + 1))
      refine x_iconst (5) dX9_sends_39 rfl ?_
      refine x_iload_n 1 dX9_sends_40 rfl rfl ?_
      refine x_imul dX9_sends_41 ?_
      refine x_iload_n 2 dX9_sends_42 rfl rfl ?_
      refine x_iadd dX9_sends_43 ?_
      refine x_aload_n 0 dX9_sends_44 rfl rfl ?_
      refine x_geti (k := 34) (kI := 34) dX9_sends_45 fl9_183 k_468 rfl rfl (fun ⟨a10, a10'⟩ => ?_)
      have e11 : (up M 468 34 ((M 468 34) + 1)) 468 34 = (M 468 34) + 1 := (by simp (disch := omega) only [up_s, up_o, up_k])
      simp only [e11] at a10 a10' ⊢
      refine x_iast dX9_sends_48 k9 (by omega) (by omega) (by decide) ⟨by omega, by omega⟩ ?_
      refine x_aload_n 0 dX9_sends_49 rfl rfl ?_
      refine x_getr (k := 31) (d := 25) dX9_sends_50 fl9_83 k_468 rfl (fun k12 => ?_)
      have k12 : isK 21 40 493 := k12
      show Ok g mX9_sends (rmd 3) (FQ g (pV (fun M' => ∃ b', BMV M (M 474 p) b' 1 M' ∧ ((b.1 (5 * t + p) = 45 ∧ Sol M t p ∧ b' = SNo (5 * t + p) b) ∨ (¬ (b.1 (5 * t + p) = 45 ∧ Sol M t p) ∧ b' = b))))) 53 [(0, rv g 468), (1, iv t), (2, iv p)] [rv g 493] (up (up M 468 34 ((M 468 34) + 1)) 494 ((5 * t) + p) ((M 468 34) + 1))
      refine x_iconst (5) dX9_sends_53 rfl ?_
      refine x_iload_n 1 dX9_sends_54 rfl rfl ?_
      refine x_imul dX9_sends_55 ?_
      refine x_iload_n 2 dX9_sends_56 rfl rfl ?_
      refine x_iadd dX9_sends_57 ?_
      refine x_bipush (113) dX9_sends_58 rfl ?_
      refine x_cast dX9_sends_60 k12 (by omega) (by omega) (by decide) ⟨by decide, by decide⟩ (by omega) (by omega) ?_
      refine x_aload_n 0 dX9_sends_61 rfl rfl ?_
      refine x_aload_n 0 dX9_sends_62 rfl rfl ?_
      refine x_getr (k := 10) (d := 6) dX9_sends_63 fl9_26 k_468 rfl (fun k13 => ?_)
      have k13 : isK 20 5 474 := k13
      show Ok g mX9_sends (rmd 3) (FQ g (pV (fun M' => ∃ b', BMV M (M 474 p) b' 1 M' ∧ ((b.1 (5 * t + p) = 45 ∧ Sol M t p ∧ b' = SNo (5 * t + p) b) ∨ (¬ (b.1 (5 * t + p) = 45 ∧ Sol M t p) ∧ b' = b))))) 66 [(0, rv g 468), (1, iv t), (2, iv p)] [rv g 474, rv g 468] (up (up (up M 468 34 ((M 468 34) + 1)) 494 ((5 * t) + p) ((M 468 34) + 1)) 493 ((5 * t) + p) 113)
      refine x_iload_n 2 dX9_sends_66 rfl rfl ?_
      refine x_iald dX9_sends_67 k13 (by omega) (by omega) (by decide) (fun ⟨a14, a14'⟩ => ?_)
      have e15 : (up (up (up M 468 34 ((M 468 34) + 1)) 494 ((5 * t) + p) ((M 468 34) + 1)) 493 ((5 * t) + p) 113) 474 p = M 474 p := (by simp (disch := omega) only [up_s, up_o, up_k])
      simp only [e15] at a14 a14' ⊢
      have hA := hb.add I.sta i2 i4 (by omega) (by omega)
      refine x_callVV (as := [iv (M 474 p)]) (rest := []) dX9_sends_68 vl9_177 k_468 (c_X9_gives g (up (up (up M 468 34 ((M 468 34) + 1)) 494 ((5 * t) + p) ((M 468 34) + 1)) 493 ((5 * t) + p) 113) (M 474 p) _ (by omega) (hA.1.gb (hb.gb I hq.2.2) hA.2.1 (hq.add (by omega) (by omega) (i3.symm.trans (by omega))).2.2) hA.2.2.1 (by have := hA.2.2.2.1; have := hA.2.2.2.2; omega) hA.2.1 (hq.add (by omega) (by omega) (i3.symm.trans (by omega))).1) rfl rfl (Nat.le_of_ble_eq_true rfl) ⟨Nat.le_of_ble_eq_true rfl, Nat.le_of_ble_eq_true rfl⟩ (fun M18 h17 => ?_)
      have hG := h17
      refine x_vret dX9_sends_71 rfl ?_
      exact ⟨rfl, _, hA.trans hG, Or.inl ⟨by omega, by rcases hs with ⟨_, e⟩ | ⟨e, _⟩; exact e; omega, rfl⟩⟩
    · refine x_vret dX9_sends_24 rfl ?_
      exact ⟨rfl, b, (BMV.rfl' I hb).mono (by omega), Or.inr ⟨fun w => by rcases hs with ⟨e, _⟩ | ⟨_, e⟩; omega; exact e w.2, rfl⟩⟩

set_option maxHeartbeats 600000 in
set_option maxRecDepth 100000 in
theorem c_X9_calls (g : GG) (M : Mem) (p : Int) (b : BSt) (I : RB M) (p0 : 0 ≤ p) (p1 : p < M 468 9) (hb : RBb M (M 474 p) b) (hq : QS 50000 b) (hst : M 468 34 ≤ 99900) : Ct g yX9_calls cX9_calls 3 none 4 [rv g 468, iv p] M (pV (fun M' => BMV M (M 474 p) (fFo (fun t => Sol M t p) p (M 468 17) b) 8 M')) := by
  refine ct_of (by decide +kernel) (Nat.le_of_ble_eq_true rfl) ?_
  show Ok g mX9_calls (rmd 4) (FQ g (pV (fun M' => BMV M (M 474 p) (fFo (fun t => Sol M t p) p (M 468 17) b) 8 M'))) 0 [(0, rv g 468), (1, iv p)] [] M
  have i0 := I.rng
  have i1 := I.prob p p0 p1
  have i2 := I.stamp.1
  have hq2 := (hq.fTk (sol := (fun t => Sol M t p)) (p := p) (M 468 17).toNat).mono (k2 := 50008) (by omega)
  have hq3 := hq2.sv
  have h_107 : ∀ (n_107 : Nat) (M2 : Mem) (t : Int), (0 ≤ t ∧ t ≤ M 468 17) → (BMV M (M 474 p) (fSn (fun t => Sol M t p) p (SVo (fTk (fun t => Sol M t p) p b (M 468 17).toNat)) t.toNat) t M2) → (M 468 17 - t).toNat < n_107 → Ok g mX9_calls (rmd 4) (FQ g (pV (fun M' => BMV M (M 474 p) (fFo (fun t => Sol M t p) p (M 468 17) b) 8 M'))) 107 [(0, rv g 468), (1, iv p), (2, iv t)] [] M2 := by
    intro n_107
    induction n_107 with
    | zero => intro M2 t l0 l1 hn_107; exact absurd hn_107 (Nat.not_lt_zero _)
    | succ n_107 ih_107 =>
      intro M2 t l0 l1 hn_107
      refine x_iload_n 2 dX9_calls_107 rfl rfl ?_
      refine x_aload_n 0 dX9_calls_108 rfl rfl ?_
      refine x_geti (k := 17) (kI := 17) dX9_calls_109 fl9_127 k_468 rfl rfl (fun ⟨a1, a1'⟩ => ?_)
      have e2 : M2 468 17 = M 468 17 := (l1.1.gd (by omega) (by omega) (by omega) (by omega))
      simp only [e2] at a1 a1' ⊢
      refine x_icmp_ge (tgt := 127) dX9_calls_112 (by decide) ⟨by omega, by omega⟩ ⟨by omega, by omega⟩ (fun c3 => ?_) (fun c3 => ?_)
      · refine x_vret dX9_calls_127 rfl ?_
        rw [show t = M 468 17 by omega] at l1
        exact ⟨rfl, l1.mono (by omega)⟩
      · have hq4 := hq3.fSn (sol := (fun t => Sol M t p)) (p := p) (by omega) (by omega) t.toNat (by omega)
        have hI := I.moved l1 hq4.2.2 (by omega)
        have hc : M2 474 p = M 474 p := l1.1.gd (by omega) (by omega) (by omega) (by omega)
        have h17 : M2 468 17 = M 468 17 := l1.1.gd (by omega) (by omega) (by omega) (by omega)
        have h9 : M2 468 9 = M 468 9 := l1.1.gd (by omega) (by omega) (by omega) (by omega)
        have h34 := l1.2.2.2.2
        refine x_aload_n 0 dX9_calls_115 rfl rfl ?_
        refine x_iload_n 2 dX9_calls_116 rfl rfl ?_
        refine x_iload_n 1 dX9_calls_117 rfl rfl ?_
        refine x_callVV (as := [iv t, iv p]) (rest := []) dX9_calls_118 vl9_180 k_468 (c_X9_sends g M2 t p _ hI (by omega) (by rw [h17]; omega) (by omega) (by rw [h9]; omega) (by rw [hc]; exact l1.2.1) (hq4.mono (by omega)) (by omega)) rfl rfl (Nat.le_of_ble_eq_true rfl) ⟨Nat.le_of_ble_eq_true rfl, Nat.le_of_ble_eq_true rfl⟩ (fun M6 h5 => ?_)
        obtain ⟨b', u1, u2⟩ := h5
        rw [hc] at u1
        refine x_iinc (z := t) (lv' := [(2, iv (t + 1)), (0, rv g 468), (1, iv p)]) 2 dX9_calls_121 rfl (Nat.le_of_ble_eq_true rfl) rfl ?_
        refine x_goto (tgt := 107) dX9_calls_124 (by decide) ?_
        refine x_sub [1, 2, 0] rfl ?_
        exact ih_107 _ _ (by omega) (by rcases u2 with ⟨w1, w2, w3⟩ | ⟨w1, w2⟩; rw [fSn_t (sol := (fun t => Sol M t p)) (by omega) ((Sol_fr l1.1).mp w2) w1, ← w3]; exact l1.trans u1; rw [fSn_f (sol := (fun t => Sol M t p)) (by omega) (fun w => w1 ⟨w.2, (Sol_fr l1.1).mpr w.1⟩), ← w2]; exact l1.trans u1) (by omega)
  have h_2 : ∀ (n_2 : Nat) (M1 : Mem) (t : Int), (0 ≤ t ∧ t ≤ M 468 17) → (BMV M (M 474 p) (fTk (fun t => Sol M t p) p b t.toNat) 0 M1) → (M 468 17 - t).toNat < n_2 → Ok g mX9_calls (rmd 4) (FQ g (pV (fun M' => BMV M (M 474 p) (fFo (fun t => Sol M t p) p (M 468 17) b) 8 M'))) 2 [(0, rv g 468), (1, iv p), (2, iv t)] [] M1 := by
    intro n_2
    induction n_2 with
    | zero => intro M1 t j0 j1 hn_2; exact absurd hn_2 (Nat.not_lt_zero _)
    | succ n_2 ih_2 =>
      intro M1 t j0 j1 hn_2
      refine x_iload_n 2 dX9_calls_2 rfl rfl ?_
      refine x_aload_n 0 dX9_calls_3 rfl rfl ?_
      refine x_geti (k := 17) (kI := 17) dX9_calls_4 fl9_127 k_468 rfl rfl (fun ⟨a7, a7'⟩ => ?_)
      have e8 : M1 468 17 = M 468 17 := (j1.1.gd (by omega) (by omega) (by omega) (by omega))
      simp only [e8] at a7 a7' ⊢
      refine x_icmp_ge (tgt := 95) dX9_calls_7 (by decide) ⟨by omega, by omega⟩ ⟨by omega, by omega⟩ (fun c9 => ?_) (fun c9 => ?_)
      · rw [show t = M 468 17 by omega] at j1
        refine x_aload_n 0 dX9_calls_95 rfl rfl ?_
        refine x_aload_n 0 dX9_calls_96 rfl rfl ?_
        refine x_getr (k := 10) (d := 6) dX9_calls_97 fl9_26 k_468 rfl (fun k10 => ?_)
        have k10 : isK 20 5 474 := k10
        show Ok g mX9_calls (rmd 4) (FQ g (pV (fun M' => BMV M (M 474 p) (fFo (fun t => Sol M t p) p (M 468 17) b) 8 M'))) 100 [(0, rv g 468), (1, iv p), (2, iv t)] [rv g 474, rv g 468] M1
        refine x_iload_n 1 dX9_calls_100 rfl rfl ?_
        refine x_iald dX9_calls_101 k10 (by omega) (by omega) (by decide) (fun ⟨a11, a11'⟩ => ?_)
        have e12 : M1 474 p = M 474 p := (j1.1.gd (by omega) (by omega) (by omega) (by omega))
        simp only [e12] at a11 a11' ⊢
        refine x_callVV (as := [iv (M 474 p)]) (rest := []) dX9_calls_102 vl9_177 k_468 (c_X9_gives g M1 (M 474 p) _ (by omega) (j1.1.gb (hb.gb I hq.2.2) j1.2.1 hq2.2.2) j1.2.2.1 (by have := j1.2.2.2.1; have := j1.2.2.2.2; omega) j1.2.1 hq2.1) rfl rfl (Nat.le_of_ble_eq_true rfl) ⟨Nat.le_of_ble_eq_true rfl, Nat.le_of_ble_eq_true rfl⟩ (fun M15 h14 => ?_)
        have hG := h14
        refine x_iconst (0) dX9_calls_105 rfl ?_
        refine x_istore_n (lv' := [(2, iv 0), (0, rv g 468), (1, iv p)]) dX9_calls_106 rfl (Nat.le_of_ble_eq_true rfl) rfl ?_
        refine x_sub [1, 2, 0] rfl ?_
        exact h_107 _ _ _ (by omega) (by exact j1.trans hG) (Nat.lt_succ_self _)
      · have i8 := j1.2.1.2.2.1
        have i9 := j1.2.1.2.2.2
        obtain ⟨d1, d2, d3⟩ := ((hq.fTk (sol := (fun t => Sol M t p)) (p := p) t.toNat).2.1).mono (k2 := 60000) (by omega)
        have i7 := (hq.fTk (sol := (fun t => Sol M t p)) (p := p) t.toNat).2.2
        have hI := I.moved j1 i7 (by omega)
        have i3 := j1.2.1.1 (5 * t + p) (by omega) (by omega)
        have i6 : CP M1 (M 474 p) (5 * t + p) := (j1.1.cp _).mpr ⟨by omega, by omega, by omega, by rw [show (5 * t + p) % 5 = p by omega]⟩
        refine x_aload_n 0 dX9_calls_10 rfl rfl ?_
        refine x_getr (k := 31) (d := 25) dX9_calls_11 fl9_83 k_468 rfl (fun k16 => ?_)
        have k16 : isK 21 40 493 := k16
        show Ok g mX9_calls (rmd 4) (FQ g (pV (fun M' => BMV M (M 474 p) (fFo (fun t => Sol M t p) p (M 468 17) b) 8 M'))) 14 [(0, rv g 468), (1, iv p), (2, iv t)] [rv g 493] M1
        refine x_iconst (5) dX9_calls_14 rfl ?_
        refine x_iload_n 2 dX9_calls_15 rfl rfl ?_
        refine x_imul dX9_calls_16 ?_
        refine x_iload_n 1 dX9_calls_17 rfl rfl ?_
        refine x_iadd dX9_calls_18 ?_
        refine x_cald dX9_calls_19 k16 (by omega) (by omega) (by decide) (fun ⟨a17, a17'⟩ => ?_)
        refine x_bipush (45) dX9_calls_20 rfl ?_
        refine x_icmp_eq (tgt := 89) dX9_calls_22 (by decide) ⟨by omega, by omega⟩ ⟨by decide, by decide⟩ (fun c18 => ?_) (fun c18 => ?_)
        · refine x_iinc (z := t) (lv' := [(2, iv (t + 1)), (0, rv g 468), (1, iv p)]) 2 dX9_calls_89 rfl (Nat.le_of_ble_eq_true rfl) rfl ?_
          refine x_goto (tgt := 2) dX9_calls_92 (by decide) ?_
          refine x_sub [1, 2, 0] rfl ?_
          exact ih_2 _ _ (by omega) (by by_cases e : Sol M t p; rw [fTk_t (sol := (fun t => Sol M t p)) (by omega) e]; exact j1; rw [fTk_f (sol := (fun t => Sol M t p)) (by omega) e, TKo_none (by omega)]; exact j1) (by omega)
        · refine x_aload_n 0 dX9_calls_25 rfl rfl ?_
          refine x_iload_n 2 dX9_calls_26 rfl rfl ?_
          refine x_iload_n 1 dX9_calls_27 rfl rfl ?_
          refine x_callVIP (as := [iv t, iv p]) (rest := []) dX9_calls_28 vl9_171 k_468 (c_X9_hasSolved g M1 t p hI (by omega) (by omega) (by omega) (by omega)) rfl rfl (Nat.le_of_ble_eq_true rfl) ⟨Nat.le_of_ble_eq_true rfl, Nat.le_of_ble_eq_true rfl⟩ (fun z19 h20 => ?_)
          have hs := h20
          refine x_if_eq (tgt := 37) dX9_calls_31 (by decide) ⟨by omega, by omega⟩ (fun c22 => ?_) (fun c22 => ?_)
          · refine x_aload_n 0 dX9_calls_37 rfl rfl ?_
            refine x_getr (k := 31) (d := 25) dX9_calls_38 fl9_83 k_468 rfl (fun k23 => ?_)
            have k23 : isK 21 40 493 := k23
            show Ok g mX9_calls (rmd 4) (FQ g (pV (fun M' => BMV M (M 474 p) (fFo (fun t => Sol M t p) p (M 468 17) b) 8 M'))) 41 [(0, rv g 468), (1, iv p), (2, iv t)] [rv g 493] M1
            refine x_iconst (5) dX9_calls_41 rfl ?_
            refine x_iload_n 2 dX9_calls_42 rfl rfl ?_
            refine x_imul dX9_calls_43 ?_
            refine x_iload_n 1 dX9_calls_44 rfl rfl ?_
            refine x_iadd dX9_calls_45 ?_
            refine x_cald dX9_calls_46 k23 (by omega) (by omega) (by decide) (fun ⟨a24, a24'⟩ => ?_)
            refine x_bipush (111) dX9_calls_47 rfl ?_
            refine x_icmp_ne (tgt := 77) dX9_calls_49 (by decide) ⟨by omega, by omega⟩ ⟨by decide, by decide⟩ (fun c25 => ?_) (fun c25 => ?_)
            · refine x_aload_n 0 dX9_calls_77 rfl rfl ?_
              refine x_getr (k := 31) (d := 25) dX9_calls_78 fl9_83 k_468 rfl (fun k26 => ?_)
              have k26 : isK 21 40 493 := k26
              show Ok g mX9_calls (rmd 4) (FQ g (pV (fun M' => BMV M (M 474 p) (fFo (fun t => Sol M t p) p (M 468 17) b) 8 M'))) 81 [(0, rv g 468), (1, iv p), (2, iv t)] [rv g 493] M1
              refine x_iconst (5) dX9_calls_81 rfl ?_
              refine x_iload_n 2 dX9_calls_82 rfl rfl ?_
              refine x_imul dX9_calls_83 ?_
              refine x_iload_n 1 dX9_calls_84 rfl rfl ?_
              refine x_iadd dX9_calls_85 ?_
              refine x_bipush (45) dX9_calls_86 rfl ?_
              refine x_cast dX9_calls_88 k26 (by omega) (by omega) (by decide) ⟨by decide, by decide⟩ (by omega) (by omega) ?_
              refine x_iinc (z := t) (lv' := [(2, iv (t + 1)), (0, rv g 468), (1, iv p)]) 2 dX9_calls_89 rfl (Nat.le_of_ble_eq_true rfl) rfl ?_
              refine x_goto (tgt := 2) dX9_calls_92 (by decide) ?_
              refine x_sub [1, 2, 0] rfl ?_
              exact ih_2 _ _ (by omega) (by rw [fTk_f (sol := (fun t => Sol M t p)) (by omega) (fun w => by rcases hs with ⟨e, _⟩ | ⟨_, e⟩; omega; exact e ((Sol_fr j1.1).mpr w))]; exact j1.trans (j1.2.1.tk2 j1.2.2.1 i6 (by omega) (by have := i7 (5 * t + p); omega))) (by omega)
            · refine x_aload_n 0 dX9_calls_52 rfl rfl ?_
              refine x_getr (k := 33) (d := 27) dX9_calls_53 fl9_89 k_468 rfl (fun k27 => ?_)
              have k27 : isK 20 4 495 := k27
              show Ok g mX9_calls (rmd 4) (FQ g (pV (fun M' => BMV M (M 474 p) (fFo (fun t => Sol M t p) p (M 468 17) b) 8 M'))) 56 [(0, rv g 468), (1, iv p), (2, iv t)] [rv g 495] M1
              refine x_aload_n 0 dX9_calls_56 rfl rfl ?_
              refine x_getr (k := 10) (d := 6) dX9_calls_57 fl9_26 k_468 rfl (fun k28 => ?_)
              have k28 : isK 20 5 474 := k28
              show Ok g mX9_calls (rmd 4) (FQ g (pV (fun M' => BMV M (M 474 p) (fFo (fun t => Sol M t p) p (M 468 17) b) 8 M'))) 60 [(0, rv g 468), (1, iv p), (2, iv t)] [rv g 474, rv g 495] M1
              refine x_iload_n 1 dX9_calls_60 rfl rfl ?_
              refine x_iald dX9_calls_61 k28 (by omega) (by omega) (by decide) (fun ⟨a29, a29'⟩ => ?_)
              have e30 : M1 474 p = M 474 p := (j1.1.gd (by omega) (by omega) (by omega) (by omega))
              simp only [e30] at a29 a29' ⊢
              refine x_dup2 dX9_calls_62 rfl rfl ?_
              refine x_iald dX9_calls_63 k27 (by omega) (by omega) (by decide) (fun ⟨a31, a31'⟩ => ?_)
              refine x_iconst (1) dX9_calls_64 rfl ?_
              refine x_iadd dX9_calls_65 ?_
              refine x_iast dX9_calls_66 k27 (by omega) (by omega) (by decide) ⟨by omega, by omega⟩ ?_
              refine x_aload_n 0 dX9_calls_67 rfl rfl ?_
              refine x_dup dX9_calls_68 rfl ?_
              refine x_geti (k := 35) (kI := 35) dX9_calls_69 fl9_174 k_468 rfl rfl (fun ⟨a32, a32'⟩ => ?_)
              have e33 : (up M1 495 (M 474 p) ((M1 495 (M 474 p)) + 1)) 468 35 = M1 468 35 := (by simp (disch := omega) only [up_s, up_o, up_k])
              simp only [e33] at a32 a32' ⊢
              refine x_iconst (1) dX9_calls_72 rfl ?_
              refine x_iadd dX9_calls_73 ?_
              refine x_puti (k := 35) (kI := 35) dX9_calls_74 fw9_174 k_468 rfl ⟨by omega, by omega⟩ rfl rfl rfl ?_
              refine x_aload_n 0 dX9_calls_77 rfl rfl ?_
              refine x_getr (k := 31) (d := 25) dX9_calls_78 fl9_83 k_468 rfl (fun k34 => ?_)
              have k34 : isK 21 40 493 := k34
              show Ok g mX9_calls (rmd 4) (FQ g (pV (fun M' => BMV M (M 474 p) (fFo (fun t => Sol M t p) p (M 468 17) b) 8 M'))) 81 [(0, rv g 468), (1, iv p), (2, iv t)] [rv g 493] (up (up M1 495 (M 474 p) ((M1 495 (M 474 p)) + 1)) 468 35 ((M1 468 35) + 1))
              refine x_iconst (5) dX9_calls_81 rfl ?_
              refine x_iload_n 2 dX9_calls_82 rfl rfl ?_
              refine x_imul dX9_calls_83 ?_
              refine x_iload_n 1 dX9_calls_84 rfl rfl ?_
              refine x_iadd dX9_calls_85 ?_
              refine x_bipush (45) dX9_calls_86 rfl ?_
              refine x_cast dX9_calls_88 k34 (by omega) (by omega) (by decide) ⟨by decide, by decide⟩ (by omega) (by omega) ?_
              refine x_iinc (z := t) (lv' := [(2, iv (t + 1)), (0, rv g 468), (1, iv p)]) 2 dX9_calls_89 rfl (Nat.le_of_ble_eq_true rfl) rfl ?_
              refine x_goto (tgt := 2) dX9_calls_92 (by decide) ?_
              refine x_sub [1, 2, 0] rfl ?_
              exact ih_2 _ _ (by omega) (by rw [fTk_f (sol := (fun t => Sol M t p)) (by omega) (fun w => by rcases hs with ⟨e, _⟩ | ⟨_, e⟩; omega; exact e ((Sol_fr j1.1).mpr w))]; exact j1.trans (j1.2.1.tk1 j1.2.2.1 i6 (by omega) (by have := i7 (5 * t + p); omega))) (by omega)
          · refine x_goto (tgt := 89) dX9_calls_34 (by decide) ?_
            refine x_iinc (z := t) (lv' := [(2, iv (t + 1)), (0, rv g 468), (1, iv p)]) 2 dX9_calls_89 rfl (Nat.le_of_ble_eq_true rfl) rfl ?_
            refine x_goto (tgt := 2) dX9_calls_92 (by decide) ?_
            refine x_sub [1, 2, 0] rfl ?_
            exact ih_2 _ _ (by omega) (by rw [fTk_t (sol := (fun t => Sol M t p)) (by omega) (by rcases hs with ⟨_, e⟩ | ⟨e, _⟩; exact (Sol_fr j1.1).mp e; omega)]; exact j1) (by omega)
  refine x_iconst (0) dX9_calls_0 rfl ?_
  refine x_istore_n (lv' := [(2, iv 0), (0, rv g 468), (1, iv p)]) dX9_calls_1 rfl (Nat.le_of_ble_eq_true rfl) rfl ?_
  refine x_sub [1, 2, 0] rfl ?_
  exact h_2 _ _ _ (by omega) (by exact BMV.rfl' I hb) (Nat.lt_succ_self _)
