theorem k_8 : isK 30 5 8 := ⟨by decide, by decide, by decide +kernel⟩
theorem k_9 : isK 31 40 9 := ⟨by decide, by decide, by decide +kernel⟩
theorem k_run {r : Int} (h0 : 0 ≤ r) (h1 : r < 40) : isK 6 10 (8 * r + 148) := by
  have h := k_9.ref r.toNat (by omega) (d := 139 + 8 * r) (t' := 6) (n' := 10) (by simp only [sk, Int.toNat_of_nonneg h0])
  rwa [show (9 : Int) + (139 + 8 * r) = 8 * r + 148 by omega] at h
theorem k_prob {p : Int} (h0 : 0 ≤ p) (h1 : p < 5) : isK 4 4 (20 * p + 48) := by
  have h := k_8.ref p.toNat (by omega) (d := 40 + 20 * p) (t' := 4) (n' := 4) (by simp only [sk, Int.toNat_of_nonneg h0])
  rwa [show (8 : Int) + (40 + 20 * p) = 20 * p + 48 by omega] at h
theorem k_num {p t : Int} (h0 : 0 ≤ p) (h1 : p < 5) (t0 : 0 ≤ t) (t1 : t < 6) : isK 3 4 (20 * p + 3 * t + 50) := by
  have h := ((k_prob h0 h1).ref 0 (by decide) (d := 1) (t' := 32) (n' := 6) rfl).ref t.toNat (by omega) (d := 1 + 3 * t) (t' := 3) (n' := 4) (by simp only [sk, Int.toNat_of_nonneg t0])
  rwa [show (20 * p + 48 : Int) + 1 + (1 + 3 * t) = 20 * p + 3 * t + 50 by omega] at h
theorem k_prog {r : Int} (h0 : 0 ≤ r) (h1 : r < 40) : isK 5 4 (8 * r + 149) := by
  have h := (k_run h0 h1).ref 0 (by decide) (d := 1) (t' := 5) (n' := 4) rfl
  rwa [show (8 * r + 148 : Int) + 1 = 8 * r + 149 by omega] at h
theorem k_1 : isK 5 4 1 := ⟨by decide, by decide, by decide +kernel⟩
theorem k_5 : isK 3 4 5 := ⟨by decide, by decide, by decide +kernel⟩
theorem k_27 : isK 1 7 27 := ⟨by decide, by decide, by decide +kernel⟩
theorem k_34 : isK 1 7 34 := ⟨by decide, by decide, by decide +kernel⟩
theorem k_41 : isK 1 7 41 := ⟨by decide, by decide, by decide +kernel⟩
/-- all that the class's judging stands on -/
def AJ (M : Mem) : Prop := (0 ≤ M 0 10 ∧ M 0 10 ≤ 5 ∧ 0 ≤ M 0 12 ∧ M 0 12 ≤ 40) ∧ (∀ p, 0 ≤ p → p < M 0 10 → 0 ≤ M (20 * p + 48) 3 ∧ M (20 * p + 48) 3 ≤ 6 ∧ 1 ≤ M (20 * p + 48) 2 ∧ M (20 * p + 48) 2 ≤ 400 ∧ 0 ≤ M (20 * p + 48) 1 ∧ M (20 * p + 48) 1 ≤ 3 ∧ ∀ t, 0 ≤ t → t < M (20 * p + 48) 3 → NU M (20 * p + 3 * t + 50)) ∧
  (∀ r, 0 ≤ r → r < M 0 12 → 0 ≤ M (8 * r + 148) 5 ∧ M (8 * r + 148) 5 < M 0 10 ∧ PG M (8 * r + 149))
