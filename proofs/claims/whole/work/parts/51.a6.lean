set_option maxHeartbeats 600000 in
set_option maxRecDepth 100000 in
theorem c_X8_judge (g : GG) (M : Mem) (r t p : Int) (r0 : 0 ≤ r) (r1 : r < 40) (t0 : 0 ≤ t) (t1 : t < 6) (hp : M (8 * r + 148) 5 = p) (p0 : 0 ≤ p) (p1 : p < 5) (hPG : PG M (8 * r + 149)) (hNU : NU M (20 * p + 3 * t + 50)) (hl : 1 ≤ M (20 * p + 48) 2 ∧ M (20 * p + 48) 2 ≤ 400) (hI : SI M (-1)) : Ct g yX8_judge cX8_judge 4 none 4 [rv g 0, rv g (8 * r + 148), iv t] M (pV (fun M' => JG M r t (8 * r + 149) (20 * p + 3 * t + 50) (M (20 * p + 48) 2) M')) := by
  refine ct_of (by decide +kernel) (Nat.le_of_ble_eq_true rfl) ?_
  show Ok g mX8_judge (rmd 4) (FQ g (pV (fun M' => JG M r t (8 * r + 149) (20 * p + 3 * t + 50) (M (20 * p + 48) 2) M'))) 0 [(0, rv g 0), (1, rv g (8 * r + 148)), (2, iv t)] [] M
  have kr := k_run r0 r1
  have hu3 : 0 ≤ M 13 3 ∧ M 13 3 ≤ 240 := by rw [hI.2.1]; exact cnt_range _ (by omega)
  have hsl := hI.2.2.2.2 (6 * r + t) (by omega) (by omega)
  rw [show sl M (6 * r + t) = M (8 * r + 155) t by unfold sl; rw [show (6 * r + t) / 6 = r by omega, show (6 * r + t) % 6 = t by omega, show 155 + 8 * r = 8 * r + 155 by omega]] at hsl
  refine x_aload_n 0 dX8_judge_0 rfl rfl ?_
  refine x_getr (k := 2) (d := 8) dX8_judge_1 fl8_25 k_0 rfl (fun k1 => ?_)
  have k1 : isK 30 5 8 := k1
  show Ok g mX8_judge (rmd 4) (FQ g (pV (fun M' => JG M r t (8 * r + 149) (20 * p + 3 * t + 50) (M (20 * p + 48) 2) M'))) 4 [(0, rv g 0), (1, rv g (8 * r + 148)), (2, iv t)] [rv g 8] M
  refine x_aload_n 1 dX8_judge_4 rfl rfl ?_
  refine x_geti (k := 5) (kI := 5) dX8_judge_5 fl8_166 kr rfl rfl (fun ⟨a2, a2'⟩ => ?_)
  have e3 : M (8 * r + 148) 5 = p := hp
  simp only [e3] at a2 a2' ⊢
  refine x_aald30 dX8_judge_8 k1 (by omega) (by omega) (by decide) (fun k4 => ?_)
  have ek4 : 8 + (40 + 20 * p) = 20 * p + 48 := by omega
  rw [ek4] at k4 ⊢
  refine x_astore_n (lv' := [(3, rv g (20 * p + 48)), (0, rv g 0), (1, rv g (8 * r + 148)), (2, iv t)]) dX8_judge_9 rfl (Nat.le_of_ble_eq_true rfl) rfl ?_
  refine x_aload_n 1 dX8_judge_10 rfl rfl ?_
  refine x_getr (k := 4) (d := 10) dX8_judge_11 fl8_38 k_0 rfl (fun k5 => ?_)
  have k5 : isK 2 7 10 := k5
  show Ok g mX8_judge (rmd 4) (FQ g (pV (fun M' => JG M r t (8 * r + 149) (20 * p + 3 * t + 50) (M (20 * p + 48) 2) M'))) 14 [(3, rv g (20 * p + 48)), (0, rv g 0), (1, rv g (8 * r + 148)), (2, iv t)] [rv g 10] M
  refine x_aload_n 2 dX8_judge_14 rfl rfl ?_
  refine x_getr (k := 0) (d := 1) dX8_judge_15 fl8_176 kr rfl (fun k6 => ?_)
  have ek6 : (8 * r + 148 + 1 : Int) = 8 * r + 149 := by omega
  rw [ek6] at k6 ⊢
  refine x_aload_n 0 dX8_judge_18 rfl rfl ?_
  refine x_getr (k := 0) (d := 1) dX8_judge_19 fl8_139 k4 rfl (fun k7 => ?_)
  have ek7 : (20 * p + 48 + 1 : Int) = 20 * p + 49 := by omega
  rw [ek7] at k7 ⊢
  refine x_iload_n 3 dX8_judge_22 rfl rfl ?_
  refine x_aald32 dX8_judge_23 k7 (by omega) (by omega) (by decide) (fun k8 => ?_)
  have ek8 : 20 * p + 49 + (1 + 3 * t) = 20 * p + 3 * t + 50 := by omega
  rw [ek8] at k8 ⊢
  refine x_aload_n 0 dX8_judge_24 rfl rfl ?_
  refine x_geti (k := 2) (kI := 2) dX8_judge_25 fl8_127 k4 rfl rfl (fun ⟨a9, a9'⟩ => ?_)
  refine x_callVV (as := [rv g (8 * r + 149), rv g (20 * p + 3 * t + 50), iv (M (20 * p + 48) 2)]) (rest := []) dX8_judge_28 vl8_336 k5 (c_X2_execute g M (8 * r + 149) (20 * p + 3 * t + 50) (M (20 * p + 48) 2) hPG hNU hl) rfl rfl (Nat.le_of_ble_eq_true rfl) ⟨Nat.le_of_ble_eq_true rfl, Nat.le_of_ble_eq_true rfl⟩ (fun M12 h11 => ?_)
  have hE := h11
  obtain ⟨x1, x2, x3, x4, x5, x6, x7, x8, x9, x10⟩ := id hE
  refine x_aload_n 1 dX8_judge_31 rfl rfl ?_
  refine x_getr (k := 5) (d := 13) dX8_judge_32 fl8_45 k_0 rfl (fun k13 => ?_)
  have k13 : isK 7 4 13 := k13
  show Ok g mX8_judge (rmd 4) (FQ g (pV (fun M' => JG M r t (8 * r + 149) (20 * p + 3 * t + 50) (M (20 * p + 48) 2) M'))) 35 [(3, rv g (20 * p + 48)), (0, rv g 0), (1, rv g (8 * r + 148)), (2, iv t)] [rv g 13] M12
  refine x_aload_n 2 dX8_judge_35 rfl rfl ?_
  refine x_getr (k := 3) (d := 7) dX8_judge_36 fl8_212 kr rfl (fun k14 => ?_)
  have ek14 : (8 * r + 148 + 7 : Int) = 8 * r + 155 := by omega
  rw [ek14] at k14 ⊢
  refine x_iload_n 3 dX8_judge_39 rfl rfl ?_
  refine x_iald dX8_judge_40 k14 (by omega) (by omega) (by decide) (fun ⟨a15, a15'⟩ => ?_)
  have e16 : M12 (8 * r + 155) t = M (8 * r + 155) t := (x1 _ _ (by omega))
  simp only [e16] at a15 a15' ⊢
  have hs0 : M (8 * r + 155) t = -1 ∨ (0 ≤ M (8 * r + 155) t ∧ M (8 * r + 155) t < 240 ∧ 1 ≤ M12 16 (M (8 * r + 155) t) ∧ M12 16 (M (8 * r + 155) t) ≤ 240) := by
    rcases hsl with h | h
    · exact Or.inl h
    · refine Or.inr ⟨h.1, h.2, ?_⟩
      rw [x1 _ _ (by omega)]
      have h9 := hI.users h.1 h.2
      have h8 := cnt_some (P := fun j => j ≠ -1 ∧ sl M j = M (8 * r + 155) t) (n := 240) (z := 6 * r + t) (by omega) (by omega) ⟨by omega, by unfold sl; rw [show (6 * r + t) / 6 = r by omega, show (6 * r + t) % 6 = t by omega, show 155 + 8 * r = 8 * r + 155 by omega]⟩
      rw [← hI.1 _ h.1 h.2] at h8
      omega
  refine x_callVV (as := [iv (M (8 * r + 155) t)]) (rest := []) dX8_judge_41 vl8_340 k13 (c_X7_release g M12 (M (8 * r + 155) t) hs0 (by rw [x1 _ _ (by omega)]; exact hu3)) rfl rfl (Nat.le_of_ble_eq_true rfl) ⟨Nat.le_of_ble_eq_true rfl, Nat.le_of_ble_eq_true rfl⟩ (fun M19 h18 => ?_)
  have hR := h18
  obtain ⟨v1, v2, v3⟩ := JG.mid (by omega) (by omega) (by omega) (by omega) hI hE hR
  refine x_aload_n 2 dX8_judge_44 rfl rfl ?_
  refine x_getr (k := 3) (d := 7) dX8_judge_45 fl8_212 kr rfl (fun k20 => ?_)
  have ek20 : (8 * r + 148 + 7 : Int) = 8 * r + 155 := by omega
  rw [ek20] at k20 ⊢
  refine x_iload_n 3 dX8_judge_48 rfl rfl ?_
  refine x_aload_n 1 dX8_judge_49 rfl rfl ?_
  refine x_getr (k := 5) (d := 13) dX8_judge_50 fl8_45 k_0 rfl (fun k21 => ?_)
  have k21 : isK 7 4 13 := k21
  show Ok g mX8_judge (rmd 4) (FQ g (pV (fun M' => JG M r t (8 * r + 149) (20 * p + 3 * t + 50) (M (20 * p + 48) 2) M'))) 53 [(3, rv g (20 * p + 48)), (0, rv g 0), (1, rv g (8 * r + 148)), (2, iv t)] [rv g 13, iv t, rv g (8 * r + 155)] M19
  refine x_aload_n 1 dX8_judge_53 rfl rfl ?_
  refine x_getr (k := 4) (d := 10) dX8_judge_54 fl8_38 k_0 rfl (fun k22 => ?_)
  have k22 : isK 2 7 10 := k22
  show Ok g mX8_judge (rmd 4) (FQ g (pV (fun M' => JG M r t (8 * r + 149) (20 * p + 3 * t + 50) (M (20 * p + 48) 2) M'))) 57 [(3, rv g (20 * p + 48)), (0, rv g 0), (1, rv g (8 * r + 148)), (2, iv t)] [rv g 10, rv g 13, iv t, rv g (8 * r + 155)] M19
  refine x_getr (k := 1) (d := 2) dX8_judge_57 fl8_343 k22 rfl (fun k23 => ?_)
  have k23 : isK 20 6 12 := k23
  show Ok g mX8_judge (rmd 4) (FQ g (pV (fun M' => JG M r t (8 * r + 149) (20 * p + 3 * t + 50) (M (20 * p + 48) 2) M'))) 60 [(3, rv g (20 * p + 48)), (0, rv g 0), (1, rv g (8 * r + 148)), (2, iv t)] [rv g 12, rv g 13, iv t, rv g (8 * r + 155)] M19
  refine x_aload_n 1 dX8_judge_60 rfl rfl ?_
  refine x_getr (k := 4) (d := 10) dX8_judge_61 fl8_38 k_0 rfl (fun k24 => ?_)
  have k24 : isK 2 7 10 := k24
  show Ok g mX8_judge (rmd 4) (FQ g (pV (fun M' => JG M r t (8 * r + 149) (20 * p + 3 * t + 50) (M (20 * p + 48) 2) M'))) 64 [(3, rv g (20 * p + 48)), (0, rv g 0), (1, rv g (8 * r + 148)), (2, iv t)] [rv g 10, rv g 12, rv g 13, iv t, rv g (8 * r + 155)] M19
  refine x_geti (k := 2) (kI := 2) dX8_judge_64 fl8_346 k24 rfl rfl (fun ⟨a25, a25'⟩ => ?_)
  have e26 : M19 10 2 = M12 10 2 := (v3 _ _ (by omega))
  simp only [e26] at a25 a25' ⊢
  refine x_callVI (as := [rv g 12, iv (M12 10 2)]) (rest := [iv t, rv g (8 * r + 155)]) dX8_judge_67 vl8_349 k21 (c_X7_keep g M19 (M12 10 2) (by omega) (fun s a b => v1.users a b) (v1.free (by omega) (by omega)) (by rw [v1.2.1]; exact cnt_range _ (by omega))) rfl rfl (Nat.le_of_ble_eq_true rfl) ⟨Nat.le_of_ble_eq_true rfl, Nat.le_of_ble_eq_true rfl⟩ (fun z27 M29 h28 => ?_)
  have hK := h28
  obtain ⟨y0, y1, y2, y3⟩ := id hK
  refine x_iast dX8_judge_70 k20 (by omega) (by omega) (by decide) ⟨by omega, by omega⟩ ?_
  refine x_aload_n 2 dX8_judge_71 rfl rfl ?_
  refine x_getr (k := 1) (d := 5) dX8_judge_72 fl8_204 kr rfl (fun k30 => ?_)
  have ek30 : (8 * r + 148 + 5 : Int) = 8 * r + 153 := by omega
  rw [ek30] at k30 ⊢
  refine x_iload_n 3 dX8_judge_75 rfl rfl ?_
  refine x_aload_n 1 dX8_judge_76 rfl rfl ?_
  refine x_getr (k := 4) (d := 10) dX8_judge_77 fl8_38 k_0 rfl (fun k31 => ?_)
  have k31 : isK 2 7 10 := k31
  show Ok g mX8_judge (rmd 4) (FQ g (pV (fun M' => JG M r t (8 * r + 149) (20 * p + 3 * t + 50) (M (20 * p + 48) 2) M'))) 80 [(3, rv g (20 * p + 48)), (0, rv g 0), (1, rv g (8 * r + 148)), (2, iv t)] [rv g 10, iv t, rv g (8 * r + 153)] (up M29 (8 * r + 155) t z27)
  refine x_geti (k := 6) (kI := 6) dX8_judge_80 fl8_353 k31 rfl rfl (fun ⟨a32, a32'⟩ => ?_)
  have e33 : (up M29 (8 * r + 155) t z27) 10 6 = M12 10 6 := (Eq.trans (b := M29 10 6) (by simp (disch := omega) only [up_o, up_k]) ((y2 _ _ (by omega)).trans (v3 _ _ (by omega))))
  simp only [e33] at a32 a32' ⊢
  refine x_cast dX8_judge_83 k30 (by omega) (by omega) (by decide) ⟨by omega, by omega⟩ (by omega) (by omega) ?_
  refine x_aload_n 2 dX8_judge_84 rfl rfl ?_
  refine x_getr (k := 2) (d := 6) dX8_judge_85 fl8_208 kr rfl (fun k34 => ?_)
  have ek34 : (8 * r + 148 + 6 : Int) = 8 * r + 154 := by omega
  rw [ek34] at k34 ⊢
  refine x_iload_n 3 dX8_judge_88 rfl rfl ?_
  refine x_aload_n 1 dX8_judge_89 rfl rfl ?_
  refine x_getr (k := 4) (d := 10) dX8_judge_90 fl8_38 k_0 rfl (fun k35 => ?_)
  have k35 : isK 2 7 10 := k35
  show Ok g mX8_judge (rmd 4) (FQ g (pV (fun M' => JG M r t (8 * r + 149) (20 * p + 3 * t + 50) (M (20 * p + 48) 2) M'))) 93 [(3, rv g (20 * p + 48)), (0, rv g 0), (1, rv g (8 * r + 148)), (2, iv t)] [rv g 10, iv t, rv g (8 * r + 154)] (up (up M29 (8 * r + 155) t z27) (8 * r + 153) t (M12 10 6))
  refine x_geti (k := 5) (kI := 5) dX8_judge_93 fl8_356 k35 rfl rfl (fun ⟨a36, a36'⟩ => ?_)
  have e37 : (up (up M29 (8 * r + 155) t z27) (8 * r + 153) t (M12 10 6)) 10 5 = M12 10 5 := (Eq.trans (b := M29 10 5) (by simp (disch := omega) only [up_o, up_k]) ((y2 _ _ (by omega)).trans (v3 _ _ (by omega))))
  simp only [e37] at a36 a36' ⊢
  refine x_iast dX8_judge_96 k34 (by omega) (by omega) (by decide) ⟨by omega, by omega⟩ ?_
  refine x_vret dX8_judge_97 rfl ?_
  exact ⟨rfl, JG.of (by omega) (by omega) (by omega) (by omega) hI hE hR hK⟩
