section PG2
variable {ln inN lim : Int} {L A B inp : Int → Int} {s : Mem}
theorem pst_5 : pstep ln L A B inN inp s 5 0 = s 5 0 + 1 := by
  unfold pstep
  (repeat' split) <;> simp (disch := omega) only [up_s, up_o]
theorem pst_6 (h : s 6 0 = 32) : pstep ln L A B inN inp s 6 0 = 32 ∨ pstep ln L A B inN inp s 6 0 = 114 ∨ pstep ln L A B inN inp s 6 0 = 108 := by
  unfold pstep
  (repeat' split) <;> first | (left; simp (disch := omega) only [up_o]; exact h) | (right; left; exact up_s _ _ _ _) | (right; right; exact up_s _ _ _ _)
theorem pst_4 (hB : L (s 4 0) = 106 ∨ L (s 4 0) = 110 → 0 ≤ B (s 4 0)) (h0 : 0 ≤ s 4 0) (h1 : s 4 0 < ln) : 0 ≤ pstep ln L A B inN inp s 4 0 ∧ pstep ln L A B inN inp s 4 0 ≤ ln := by
  unfold pstep
  (repeat' split) <;> simp (disch := omega) only [up_s, up_o] <;> omega
theorem pst_3 (h0 : 0 ≤ s 3 0) (h1 : s 3 0 ≤ inN) : 0 ≤ pstep ln L A B inN inp s 3 0 ∧ pstep ln L A B inN inp s 3 0 ≤ inN := by
  unfold pstep
  (repeat' split) <;> simp (disch := omega) only [up_s, up_o] <;> omega
theorem pst_2 (h0 : 0 ≤ s 2 0) (h1 : s 2 0 ≤ 6) : 0 ≤ pstep ln L A B inN inp s 2 0 ∧ pstep ln L A B inN inp s 2 0 ≤ 6 := by
  unfold pstep
  (repeat' split) <;> simp (disch := omega) only [up_s, up_o] <;> omega
theorem pst_congr {L' A' B' inp' : Int → Int} (hL : L (s 4 0) = L' (s 4 0)) (hA : A (s 4 0) = A' (s 4 0)) (hB : B (s 4 0) = B' (s 4 0)) (hi : s 3 0 ≠ inN → inp (s 3 0) = inp' (s 3 0)) : pstep ln L A B inN inp s = pstep ln L' A' B' inN inp' s := by
  unfold pstep
  rw [hL, hA, hB]
  by_cases h : s 3 0 = inN
  · rw [if_pos h, if_pos h]
  · rw [if_neg h, if_neg h, hi h]
theorem prun_congr {L' A' B' inp' : Int → Int} (hL : ∀ k, 0 ≤ k → k < ln → L k = L' k ∧ A k = A' k ∧ B k = B' k ∧ (L k = 106 ∨ L k = 110 → 0 ≤ B k)) (hI : ∀ k, 0 ≤ k → k < inN → inp k = inp' k) (n : Nat) : ∀ s : Mem, 0 ≤ s 4 0 → s 4 0 ≤ ln → 0 ≤ s 3 0 → s 3 0 ≤ inN → prun ln L A B inN inp lim n s = prun ln L' A' B' inN inp' lim n s := by
  induction n with
  | zero => intro s _ _ _ _; rfl
  | succ n ih =>
    intro s a0 a1 b0 b1
    simp only [prun]
    split
    · rfl
    · split
      · rfl
      · split
        · rfl
        · rename_i c1 c2 c3
          obtain ⟨h1, h2, h3, h4⟩ := hL (s 4 0) a0 (by omega)
          rw [← pst_congr (inp := inp) h1 h2 h3 (fun h => hI _ b0 (by omega))]
          have r4 := pst_4 (ln := ln) (L := L) (A := A) (B := B) (inN := inN) (inp := inp) h4 a0 (by omega)
          have r3 := pst_3 (ln := ln) (L := L) (A := A) (B := B) (inp := inp) b0 b1
          exact ih _ r4.1 r4.2 r3.1 r3.2
end PG2
/-- what running program pr by the numbers nu leaves -/
def EXP (M : Mem) (pr nu lim : Int) (M' : Mem) : Prop := (∀ o k, ¬ (10 ≤ o ∧ o ≤ 12) → M' o k = M o k) ∧ M' 10 2 = (JA M pr nu lim) 2 0 ∧ (∀ k, 0 ≤ k → k < (JA M pr nu lim) 2 0 → M' 12 k = (JA M pr nu lim) 1 k) ∧ M' 10 5 = (JA M pr nu lim) 5 0 ∧ JEa M nu (JA M pr nu lim) (M' 10 6) ∧
  0 ≤ (JA M pr nu lim) 2 0 ∧ (JA M pr nu lim) 2 0 ≤ 6 ∧ 0 ≤ (JA M pr nu lim) 5 0 ∧ (JA M pr nu lim) 5 0 ≤ lim ∧ (M' 10 6 = 111 ∨ M' 10 6 = 119 ∨ M' 10 6 = 114 ∨ M' 10 6 = 108 ∨ M' 10 6 = 116)
/-- the loop's state against what it comes to -/
def QA (M : Mem) (pr nu lim : Int) (s : Mem) : Prop := prun (M pr 3) (fun k => M (pr + 1) k) (fun k => M (pr + 2) k) (fun k => M (pr + 3) k) (M nu 2) (fun k => M (nu + 1) k) lim (lim - s 5 0 + 1).toNat s = JA M pr nu lim
theorem QA.ini (M : Mem) (pr nu lim : Int) : QA M pr nu lim ps0 := by
  unfold QA
  rw [show lim - ps0 5 0 + 1 = lim + 1 by show _ - (0 : Int) + 1 = _; omega]
  rfl
theorem QA.nx {M s : Mem} {pr nu lim : Int} (h : QA M pr nu lim s) (h6 : s 6 0 = 32) (h4 : s 4 0 ≠ M pr 3) (h5 : s 5 0 < lim) : QA M pr nu lim (pstep (M pr 3) (fun k => M (pr + 1) k) (fun k => M (pr + 2) k) (fun k => M (pr + 3) k) (M nu 2) (fun k => M (nu + 1) k) s) := prun_nx h6 h4 h5 h rfl pst_5
theorem EXP.of {M M1 s : Mem} {pr nu lim : Int} (h : RelA M M1 s) (hq : QA M pr nu lim s) (h5 : 0 ≤ s 5 0 ∧ s 5 0 ≤ lim) (h6 : s 6 0 = 114 ∨ s 6 0 = 108) : EXP M pr nu lim M1 := by
  unfold QA at hq
  rw [prun_end (by omega)] at hq
  obtain ⟨x1, x2, x3, x4, x5, x6, x7, x8, x9, x10⟩ := h
  unfold EXP
  rw [← hq]
  exact ⟨x1, x3, x4, x7, Or.inl ⟨by omega, by omega⟩, x9, x10, h5.1, h5.2, by omega⟩
theorem EXP.lim {M M1 s : Mem} {pr nu lim : Int} (h : RelA M M1 s) (hq : QA M pr nu lim s) (h5 : s 5 0 = lim) (hl : 0 ≤ lim) (h6 : s 6 0 = 32) (h4 : s 4 0 ≠ M pr 3) : EXP M pr nu lim (up M1 10 6 116) := by
  unfold QA at hq
  rw [prun_lim h6 h4 h5 (by omega)] at hq
  obtain ⟨x1, x2, x3, x4, x5, x6, x7, x8, x9, x10⟩ := h.e (z := 116) (by omega)
  unfold EXP
  rw [← hq]
  rw [up_s] at x8
  refine ⟨x1, x3, x4, x7, Or.inl ⟨by rw [up_s]; omega, by rw [up_s, up_s]⟩, x9, x10, ?_, ?_, by omega⟩ <;> simp (disch := omega) only [up_o] <;> omega
theorem EXP.fin {M M1 s : Mem} {pr nu lim z : Int} (h : RelA M M1 s) (hq : QA M pr nu lim s) (h5 : 0 ≤ s 5 0 ∧ s 5 0 ≤ lim) (h6 : s 6 0 = 32) (h4 : s 4 0 = M pr 3) (X : (z = 111 ∧ XPa M nu s) ∨ (z = 119 ∧ ¬ XPa M nu s)) : EXP M pr nu lim (up M1 10 6 z) := by
  unfold QA at hq
  rw [prun_fin h6 h4 (by omega)] at hq
  obtain ⟨x1, x2, x3, x4, x5, x6, x7, x8, x9, x10⟩ := h.e (z := z) (by omega)
  have hX : XPa M nu (up s 6 0 111) ↔ XPa M nu s := by unfold XPa; simp (disch := omega) only [up_o]
  unfold EXP
  rw [← hq]
  rw [up_s] at x8
  simp (disch := omega) only [up_o] at x3 x4 x7 x9 x10
  refine ⟨x1, by simp (disch := omega) only [up_o]; exact x3, by simp (disch := omega) only [up_o]; exact x4, by simp (disch := omega) only [up_o]; exact x7, ?_, by simp (disch := omega) only [up_o]; exact x9, by simp (disch := omega) only [up_o]; exact x10, by simp (disch := omega) only [up_o]; omega, by simp (disch := omega) only [up_o]; omega, by omega⟩
  rcases X with ⟨a, b⟩ | ⟨a, b⟩
  · exact Or.inr (Or.inl ⟨up_s _ _ _ _, hX.mpr b, by omega⟩)
  · exact Or.inr (Or.inr ⟨up_s _ _ _ _, fun q => b (hX.mp q), by omega⟩)
