/-! the class in its ranges -/
def CR (M : Mem) : Prop := (0 ≤ M 0 10 ∧ M 0 10 ≤ 5 ∧ 0 ≤ M 0 11 ∧ M 0 11 ≤ 8 ∧ 0 ≤ M 0 12 ∧ M 0 12 ≤ 40 ∧ 0 ≤ M 0 13 ∧ M 0 13 ≤ 1000) ∧
  (∀ r, 0 ≤ r → r < M 0 12 → 0 ≤ M (8 * r + 148) 4 ∧ M (8 * r + 148) 4 < M 0 11 ∧ 0 ≤ M (8 * r + 148) 5 ∧ M (8 * r + 148) 5 < M 0 10 ∧ 0 ≤ M (8 * r + 148) 6 ∧ M (8 * r + 148) 6 ≤ 999 ∧ 0 ≤ M (8 * r + 148) 7 ∧ M (8 * r + 148) 7 ≤ 1 ∧ 0 ≤ M (8 * r + 148) 8 ∧ M (8 * r + 148) 8 < 65536 ∧ -1 ≤ M (8 * r + 148) 9 ∧ M (8 * r + 148) 9 ≤ 5) ∧
  (∀ p, 0 ≤ p → p < M 0 10 → 0 ≤ M (20 * p + 48) 3 ∧ M (20 * p + 48) 3 ≤ 6 ∧ 1 ≤ M (20 * p + 48) 2 ∧ M (20 * p + 48) 2 ≤ 400 ∧ 0 ≤ M (20 * p + 48) 1 ∧ M (20 * p + 48) 1 ≤ 3)
theorem CR.run {M : Mem} (h : CR M) : ∀ r, 0 ≤ r → r < M 0 12 → 0 ≤ M (8 * r + 148) 4 ∧ M (8 * r + 148) 4 < M 0 11 ∧ 0 ≤ M (8 * r + 148) 5 ∧ M (8 * r + 148) 5 < M 0 10 ∧ 0 ≤ M (8 * r + 148) 6 ∧ M (8 * r + 148) 6 ≤ 999 ∧ 0 ≤ M (8 * r + 148) 7 ∧ M (8 * r + 148) 7 ≤ 1 ∧ 0 ≤ M (8 * r + 148) 8 ∧ M (8 * r + 148) 8 < 65536 ∧ -1 ≤ M (8 * r + 148) 9 ∧ M (8 * r + 148) 9 ≤ 5 := h.2.1
theorem CR.prob {M : Mem} (h : CR M) : ∀ p, 0 ≤ p → p < M 0 10 → 0 ≤ M (20 * p + 48) 3 ∧ M (20 * p + 48) 3 ≤ 6 ∧ 1 ≤ M (20 * p + 48) 2 ∧ M (20 * p + 48) 2 ≤ 400 ∧ 0 ≤ M (20 * p + 48) 1 ∧ M (20 * p + 48) 1 ≤ 3 := h.2.2
theorem CR.ru {M : Mem} (h : CR M) : RU M (M 0 12) (M 0 11) := ⟨h.1.2.2.2.2.1, h.1.2.2.2.2.2.1, h.1.2.2.1, h.1.2.2.2.1, fun r r0 r1 => by have := h.run r r0 r1; have := h.1; omega⟩
theorem CR.pd {M : Mem} (h : CR M) : ∀ r, 0 ≤ r → r < M 0 12 → M (8 * r + 148) 7 = 0 ∨ M (8 * r + 148) 7 = 1 := fun r r0 r1 => by have := h.run r r0 r1; omega
/-- how many runs of a team and a problem are pending, in the class -/
noncomputable def cpn (M : Mem) (t p : Int) : Int := cnt (fun r => M (8 * r + 148) 7 ≠ 0 ∧ M (8 * r + 148) 4 = t ∧ M (8 * r + 148) 5 = p) (M 0 12)
noncomputable def cpi (M : Mem) (t : Int) : Int := lst (fun p => 0 < cpn M t p) (M 0 10)
theorem cpi_rng {M : Mem} {t : Int} (h : 0 ≤ M 0 10) : cpi M t = -1 ∨ (0 ≤ cpi M t ∧ cpi M t < M 0 10) := lst_range _ h
