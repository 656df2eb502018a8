set_option maxHeartbeats 600000 in
set_option maxRecDepth 100000 in
theorem c_X9_gives (g : GG) (M : Mem) (c : Int) (b : BSt) (c0 : 0 ≤ c ∧ c < 4) (G : GB M) (hs : STA M) (hst : 0 ≤ M 468 34 ∧ M 468 34 ≤ 1000000) (hb : RBb M c b) (hn : QN b) : Ct g yX9_gives cX9_gives 3 none 1 [rv g 468, iv c] M (pV (fun M' => BMV M c (SVo b) 0 M')) := by
  refine ct_of (by decide +kernel) (Nat.le_of_ble_eq_true rfl) ?_
  show Ok g mX9_gives (rmd 1) (FQ g (pV (fun M' => BMV M c (SVo b) 0 M'))) 0 [(0, rv g 468), (1, iv c)] [] M
  obtain ⟨g1, g2, g3, g4, g5, g6⟩ := id G
  have h_7 : ∀ (n_7 : Nat) (M1 : Mem) (b1 : BSt) (f : Int), (RBb M1 c b1) → (SVo b1 = SVo b) → (QN b1) → (WA b1.2.1 0 f) → (FRr M c M1 ∧ STA M1 ∧ GB M1 ∧ M1 468 34 = M 468 34) → (-1 ≤ f ∧ f < 80) → b1.2.1.length < n_7 → Ok g mX9_gives (rmd 1) (FQ g (pV (fun M' => BMV M c (SVo b) 0 M'))) 7 [(0, rv g 468), (1, iv c), (2, iv f)] [] M1 := by
    intro n_7
    induction n_7 with
    | zero => intro M1 b1 f j0 j1 j2 j3 j4 j5 hn_7; exact absurd hn_7 (Nat.not_lt_zero _)
    | succ n_7 ih_7 =>
      intro M1 b1 f j0 j1 j2 j3 j4 j5 hn_7
      refine x_aload_n 0 dX9_gives_7 rfl rfl ?_
      refine x_getr (k := 33) (d := 27) dX9_gives_8 fl9_89 k_468 rfl (fun k1 => ?_)
      have k1 : isK 20 4 495 := k1
      show Ok g mX9_gives (rmd 1) (FQ g (pV (fun M' => BMV M c (SVo b) 0 M'))) 11 [(0, rv g 468), (1, iv c), (2, iv f)] [rv g 495] M1
      refine x_iload_n 1 dX9_gives_11 rfl rfl ?_
      refine x_iald dX9_gives_12 k1 (by omega) (by omega) (by decide) (fun ⟨a2, a2'⟩ => ?_)
      refine x_if_le (tgt := 59) dX9_gives_13 (by decide) ⟨by omega, by omega⟩ (fun c3 => ?_) (fun c3 => ?_)
      · refine x_vret dX9_gives_59 rfl ?_
        have e9 : SVo b1 = b1 := SVo_0 (by
          rcases j3 with ⟨w1, w2, x, w3, w4, w5, w6⟩ | ⟨w1, w2⟩
          · have := cdx_0 w5 w6
            have := j0.2.2.1
            right; omega
          · left; omega)
        rw [← j1, e9]
        exact ⟨rfl, j4.1, j0, j4.2.1, by omega, by omega⟩
      · refine x_iload_n 2 dX9_gives_16 rfl rfl ?_
        refine x_iconst (-1) dX9_gives_17 rfl ?_
        refine x_icmp_eq (tgt := 59) dX9_gives_18 (by decide) ⟨by omega, by omega⟩ ⟨by decide, by decide⟩ (fun c4 => ?_) (fun c4 => ?_)
        · refine x_vret dX9_gives_59 rfl ?_
          have e9 : SVo b1 = b1 := SVo_0 (by
            rcases j3 with ⟨w1, w2, x, w3, w4, w5, w6⟩ | ⟨w1, w2⟩
            · have := cdx_0 w5 w6
              have := j0.2.2.1
              right; omega
            · left; omega)
          rw [← j1, e9]
          exact ⟨rfl, j4.1, j0, j4.2.1, by omega, by omega⟩
        · obtain ⟨x, q, v1, v2, v3, rfl, w1, w2, w3, w4, v5, v6, v7, v8, v9, v10⟩ := j0.sv1 j2 j4.2.1 j4.2.2.1 j3 (by omega) (by omega)
          have q9 : b1.2.1.length = q.length + 1 := by rw [v1]; simp
          refine x_aload_n 0 dX9_gives_21 rfl rfl ?_
          refine x_getr (k := 33) (d := 27) dX9_gives_22 fl9_89 k_468 rfl (fun k5 => ?_)
          have k5 : isK 20 4 495 := k5
          show Ok g mX9_gives (rmd 1) (FQ g (pV (fun M' => BMV M c (SVo b) 0 M'))) 25 [(0, rv g 468), (1, iv c), (2, iv f)] [rv g 495] M1
          refine x_iload_n 1 dX9_gives_25 rfl rfl ?_
          refine x_dup2 dX9_gives_26 rfl rfl ?_
          refine x_iald dX9_gives_27 k5 (by omega) (by omega) (by decide) (fun ⟨a6, a6'⟩ => ?_)
          refine x_iconst (1) dX9_gives_28 rfl ?_
          refine x_isub dX9_gives_29 ?_
          refine x_iast dX9_gives_30 k5 (by omega) (by omega) (by decide) ⟨by omega, by omega⟩ ?_
          refine x_aload_n 0 dX9_gives_31 rfl rfl ?_
          refine x_getr (k := 31) (d := 25) dX9_gives_32 fl9_83 k_468 rfl (fun k7 => ?_)
          have k7 : isK 21 40 493 := k7
          show Ok g mX9_gives (rmd 1) (FQ g (pV (fun M' => BMV M c (SVo b) 0 M'))) 35 [(0, rv g 468), (1, iv c), (2, iv f)] [rv g 493] (up M1 495 c ((M1 495 c) - 1))
          refine x_iconst (5) dX9_gives_35 rfl ?_
          refine x_iload_n 2 dX9_gives_36 rfl rfl ?_
          refine x_bipush (10) dX9_gives_37 rfl ?_
          refine x_idivp dX9_gives_39 (by omega) (by omega) (by omega) (by omega) ?_
          refine x_imul dX9_gives_40 ?_
          refine x_iload_n 2 dX9_gives_41 rfl rfl ?_
          refine x_bipush (10) dX9_gives_42 rfl ?_
          refine x_iremp dX9_gives_44 (by omega) (by omega) (by omega) (by omega) ?_
          refine x_iadd dX9_gives_45 ?_
          refine x_bipush (111) dX9_gives_46 rfl ?_
          refine x_cast dX9_gives_48 k7 (by omega) (by omega) (by decide) ⟨by decide, by decide⟩ (by omega) (by omega) ?_
          refine x_aload_n 0 dX9_gives_49 rfl rfl ?_
          refine x_iload_n 1 dX9_gives_50 rfl rfl ?_
          refine x_iconst (0) dX9_gives_51 rfl ?_
          refine x_callVIP (as := [iv c, iv 0]) (rest := []) dX9_gives_52 vl9_186 k_468 (c_X9_waitingAt g (up (up M1 495 c ((M1 495 c) - 1)) 493 ((5 * (f / 10)) + (f % 10)) 111) c 0 q c0 (by omega) v9 v8 (by simp (disch := omega) only [up_o]; omega) v5.2.1 v7.len) rfl rfl (Nat.le_of_ble_eq_true rfl) ⟨Nat.le_of_ble_eq_true rfl, Nat.le_of_ble_eq_true rfl⟩ (fun z8 h9 => ?_)
          have hw := h9
          refine x_istore_n (lv' := [(2, iv z8), (0, rv g 468), (1, iv c)]) dX9_gives_55 rfl (Nat.le_of_ble_eq_true rfl) rfl ?_
          refine x_goto (tgt := 7) dX9_gives_56 (by decide) ?_
          refine x_sub [1, 2, 0] rfl ?_
          exact ih_7 _ ((SV1 (5 * (f / 10) + f % 10) q b1)) _ (by exact v5) (by exact v6.trans j1) (by exact v7) (by exact hw) (by exact ⟨j4.1.trans v10, v8, v9, by simp (disch := omega) only [up_o]; exact j4.2.2.2⟩) (by rcases hw with ⟨_, _, x, _, w1, w2, w3⟩ | ⟨_, w⟩; have := cdx_0 w2 w3; omega; omega) (by show q.length < _; omega)
  refine x_aload_n 0 dX9_gives_0 rfl rfl ?_
  refine x_iload_n 1 dX9_gives_1 rfl rfl ?_
  refine x_iconst (0) dX9_gives_2 rfl ?_
  refine x_callVIP (as := [iv c, iv 0]) (rest := []) dX9_gives_3 vl9_186 k_468 (c_X9_waitingAt g M c 0 b.2.1 c0 (by omega) G hs hst hb.2.1 hn.len) rfl rfl (Nat.le_of_ble_eq_true rfl) ⟨Nat.le_of_ble_eq_true rfl, Nat.le_of_ble_eq_true rfl⟩ (fun z11 h12 => ?_)
  have hw := h12
  refine x_istore_n (lv' := [(2, iv z11), (0, rv g 468), (1, iv c)]) dX9_gives_6 rfl (Nat.le_of_ble_eq_true rfl) rfl ?_
  refine x_sub [1, 2, 0] rfl ?_
  exact h_7 _ _ (b) _ (by exact hb) (by rfl) (by exact hn) (by exact hw) (by exact ⟨FRr.rfl', hs, G, rfl⟩) (by rcases hw with ⟨_, _, x, _, w1, w2, w3⟩ | ⟨_, w⟩; have := cdx_0 w2 w3; omega; omega) (Nat.lt_succ_self _)
