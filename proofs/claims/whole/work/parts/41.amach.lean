theorem k_10 : isK 2 7 10 := ⟨by decide, by decide, by decide +kernel⟩
theorem k_13 : isK 7 4 13 := ⟨by decide, by decide, by decide +kernel⟩
theorem k_17 : isK 0 6 17 := ⟨by decide, by decide, by decide +kernel⟩
theorem k_11 : isK 20 4 11 := ⟨by decide, by decide, by decide +kernel⟩
theorem k_12 : isK 20 6 12 := ⟨by decide, by decide, by decide +kernel⟩
/-- the class's machine (objects 10 to 12) against the state s, the rest being as in M -/
def RelA (M M1 s : Mem) : Prop := (∀ o k, ¬ (10 ≤ o ∧ o ≤ 12) → M1 o k = M o k) ∧ (∀ k, 0 ≤ k → k < 4 → M1 11 k = s 0 k) ∧ M1 10 2 = s 2 0 ∧ (∀ k, 0 ≤ k → k < s 2 0 → M1 12 k = s 1 k) ∧ M1 10 3 = s 3 0 ∧ M1 10 4 = s 4 0 ∧ M1 10 5 = s 5 0 ∧ ((s 6 0 = 32 ∧ M1 10 6 = 45) ∨ (s 6 0 ≠ 32 ∧ M1 10 6 = s 6 0)) ∧ 0 ≤ s 2 0 ∧ s 2 0 ≤ 6
section RA
variable {M M1 s : Mem}
theorem RelA.rd (h : RelA M M1 s) {o k : Int} (hn : o < 10 ∨ 12 < o) : M1 o k = M o k := h.1 o k (by omega)
theorem RelA.pl (h : RelA M M1 s) (a v : Int) : RelA M (up M1 11 a v) (up s 0 a v) := by
  obtain ⟨h1, h2, h3, h4, h5, h6, h7, h8, h9⟩ := h
  refine ⟨fun o k hn => ?_, fun k k0 k1 => ?_, ?_, fun k k0 k1 => ?_, ?_, ?_, ?_, ?_, ?_⟩
  · rw [up_o (by omega)]; exact h1 o k hn
  · by_cases e : k = a
    · rw [e, up_s, up_s]
    · rw [up_k e, up_k e]; exact h2 k k0 k1
  · simp (disch := omega) only [up_o]; exact h3
  · simp (disch := omega) only [up_o] at k1 ⊢; exact h4 k k0 k1
  · simp (disch := omega) only [up_o]; exact h5
  · simp (disch := omega) only [up_o]; exact h6
  · simp (disch := omega) only [up_o]; exact h7
  · simp (disch := omega) only [up_o]; exact h8
  · simp (disch := omega) only [up_o]; exact h9
theorem RelA.c (h : RelA M M1 s) {o : Int} (z : Int) (ho : o = 3 ∨ o = 4 ∨ o = 5) : RelA M (up M1 10 o z) (up s o 0 z) := by
  obtain ⟨h1, h2, h3, h4, h5, h6, h7, h8, h9⟩ := h
  refine ⟨fun o k hn => ?_, fun k k0 k1 => ?_, ?_, fun k k0 k1 => ?_, ?_, ?_, ?_, ?_, ?_⟩
  · rw [up_o (by omega)]; exact h1 o k hn
  · rw [up_o (by omega), up_o (by omega)]; exact h2 k k0 k1
  · rw [up_k (by omega), up_o (by omega)]; exact h3
  · rw [up_o (by omega)] at k1
    rw [up_o (by omega), up_o (by omega)]; exact h4 k k0 k1
  · rcases ho with rfl | rfl | rfl
    · rw [up_s, up_s]
    · rw [up_k (by omega), up_o (by omega)]; exact h5
    · rw [up_k (by omega), up_o (by omega)]; exact h5
  · rcases ho with rfl | rfl | rfl
    · rw [up_k (by omega), up_o (by omega)]; exact h6
    · rw [up_s, up_s]
    · rw [up_k (by omega), up_o (by omega)]; exact h6
  · rcases ho with rfl | rfl | rfl
    · rw [up_k (by omega), up_o (by omega)]; exact h7
    · rw [up_k (by omega), up_o (by omega)]; exact h7
    · rw [up_s, up_s]
  · rcases ho with rfl | rfl | rfl <;> simp (disch := omega) only [up_k, up_o] <;> exact h8
  · rw [up_o (by omega)]; exact h9
theorem RelA.e (h : RelA M M1 s) {z : Int} (hz : z ≠ 32) : RelA M (up M1 10 6 z) (up s 6 0 z) := by
  obtain ⟨h1, h2, h3, h4, h5, h6, h7, h8, h9⟩ := h
  refine ⟨fun o k hn => ?_, fun k k0 k1 => ?_, ?_, fun k k0 k1 => ?_, ?_, ?_, ?_, ?_, ?_⟩
  · rw [up_o (by omega)]; exact h1 o k hn
  · rw [up_o (by omega), up_o (by omega)]; exact h2 k k0 k1
  · rw [up_k (by omega), up_o (by omega)]; exact h3
  · rw [up_o (by omega)] at k1
    rw [up_o (by omega), up_o (by omega)]; exact h4 k k0 k1
  · rw [up_k (by omega), up_o (by omega)]; exact h5
  · rw [up_k (by omega), up_o (by omega)]; exact h6
  · rw [up_k (by omega), up_o (by omega)]; exact h7
  · rw [up_s, up_s]; exact Or.inr ⟨hz, rfl⟩
  · rw [up_o (by omega)]; exact h9
theorem RelA.ou (h : RelA M M1 s) (v : Int) (hn : s 2 0 ≠ 6) : RelA M (up (up M1 12 (s 2 0) v) 10 2 (s 2 0 + 1)) (up (up s 1 (s 2 0) v) 2 0 (s 2 0 + 1)) := by
  obtain ⟨h1, h2, h3, h4, h5, h6, h7, h8, h9, h0⟩ := h
  refine ⟨fun o k hn => ?_, fun k k0 k1 => ?_, ?_, fun k k0 k1 => ?_, ?_, ?_, ?_, ?_, ?_⟩
  · rw [up_o (by omega), up_o (by omega)]; exact h1 o k hn
  · simp (disch := omega) only [up_o]; exact h2 k k0 k1
  · rw [up_s, up_s]
  · rw [up_s] at k1
    simp (disch := omega) only [up_o]
    by_cases e : k = s 2 0
    · rw [e, up_s, up_s]
    · rw [up_k e, up_k e]; exact h4 k k0 (by omega)
  · simp (disch := omega) only [up_o, up_k]; exact h5
  · simp (disch := omega) only [up_o, up_k]; exact h6
  · simp (disch := omega) only [up_o, up_k]; exact h7
  · simp (disch := omega) only [up_o, up_k]; exact h8
  · rw [up_s]; omega
theorem RelA.ini {M M0 : Mem} (z0 : ∀ o j, o ≠ 11 → M0 o j = M o j) (z1 : ∀ j, 0 ≤ j → j < 4 → M0 11 j = 0) : RelA M (up (up (up (up (up M0 10 2 0) 10 3 0) 10 4 0) 10 5 0) 10 6 45) ps0 := by
  refine ⟨fun o k hn => ?_, fun k k0 k1 => ?_, ?_, fun k k0 k1 => ?_, ?_, ?_, ?_, ?_, Int.le_refl 0, by show (0 : Int) ≤ 6; omega⟩
  · simp (disch := omega) only [up_o]; exact z0 o k (by omega)
  · simp (disch := omega) only [up_o]; exact z1 k k0 k1
  · simp (disch := omega) only [up_o, up_k, up_s]; rfl
  · exact absurd (show k < (0 : Int) from k1) (by omega)
  · simp (disch := omega) only [up_o, up_k, up_s]; rfl
  · simp (disch := omega) only [up_o, up_k, up_s]; rfl
  · simp (disch := omega) only [up_o, up_k, up_s]; rfl
  · left; exact ⟨rfl, by rw [up_s]⟩
end RA
/-- what the class's program pr by the numbers nu comes to within lim steps -/
def JA (M : Mem) (pr nu lim : Int) : Mem := prun (M pr 3) (fun k => M (pr + 1) k) (fun k => M (pr + 2) k) (fun k => M (pr + 3) k) (M nu 2) (fun k => M (nu + 1) k) lim (lim + 1).toNat ps0
def XPa (M : Mem) (nu : Int) (S : Mem) : Prop := S 2 0 = M nu 3 ∧ ∀ k, 0 ≤ k → k < S 2 0 → S 1 k = M (nu + 2) k
def JEa (M : Mem) (nu : Int) (S : Mem) (z : Int) : Prop := (S 6 0 ≠ 111 ∧ z = S 6 0) ∨ (S 6 0 = 111 ∧ XPa M nu S ∧ z = 111) ∨ (S 6 0 = 111 ∧ ¬ XPa M nu S ∧ z = 119)
/-- a program, or numbers, as they may be -/
def PG (M : Mem) (pr : Int) : Prop := isK 5 4 pr ∧ 0 ≤ M pr 3 ∧ M pr 3 ≤ 20 ∧ (pr + 3 < 10 ∨ 12 < pr) ∧ ∀ k, 0 ≤ k → k < M pr 3 → SOK (M (pr + 1) k) (M (pr + 2) k) (M (pr + 3) k)
def NU (M : Mem) (nu : Int) : Prop := isK 3 4 nu ∧ 0 ≤ M nu 2 ∧ M nu 2 ≤ 4 ∧ 0 ≤ M nu 3 ∧ M nu 3 ≤ 6 ∧ (nu + 2 < 10 ∨ 12 < nu)
theorem up_up (M : Mem) (o k v w : Int) : up (up M o k v) o k w = up M o k w := by
  funext a b
  by_cases e : a = o ∧ b = k
  · obtain ⟨rfl, rfl⟩ := e; rw [up_s, up_s]
  · rw [up_n e, up_n e, up_n e]
