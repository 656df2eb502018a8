def aT (M : Mem) : Int → Int := fun r => M (8 * r + 148) 4
def aB (M : Mem) : Int → Int := fun r => M (8 * r + 148) 5
def aM (M : Mem) : Int → Int := fun r => M (8 * r + 148) 6
def aV (M : Mem) (b : Int) : Int → Prop := fun r => ¬ (b ≠ 0 ∧ M (8 * r + 148) 7 ≠ 0)
def aA (M : Mem) : Int → Prop := fun r => M (8 * r + 148) 8 = 97
/-- the runs as a board needs them -/
def RU (M : Mem) (n T : Int) : Prop := 0 ≤ n ∧ n ≤ 40 ∧ 0 ≤ T ∧ T ≤ 8 ∧ ∀ r, 0 ≤ r → r < n → 0 ≤ M (8 * r + 148) 4 ∧ M (8 * r + 148) 4 < T ∧ 0 ≤ M (8 * r + 148) 5 ∧ M (8 * r + 148) 5 < 5 ∧ 0 ≤ M (8 * r + 148) 6 ∧ M (8 * r + 148) 6 ≤ 999
/-- the board o is that of the first n runs -/
def RC (M : Mem) (o n T b : Int) (M' : Mem) : Prop := (∀ a k, ¬ (o ≤ a ∧ a ≤ o + 6) → M' a k = M a k) ∧ M' o 6 = T ∧ BI M' o (aT M) (aB M) (aM M) (aV M b) (aA M) n ∧ ORD M' o T
theorem CNp.fr {M M' : Mem} {o t p m : Int} {ok : Prop} (h : CNp M o t p m ok M') {a k : Int} (ha : ¬ (o + 1 ≤ a ∧ a ≤ o + 5)) : M' a k = M a k := by
  rcases h with ⟨-, rfl⟩ | ⟨-, -, rfl⟩ | ⟨-, -, rfl⟩
  · rfl
  · exact up_o (by omega)
  · simp (disch := omega) only [up_o]
theorem BI.cong {M M' : Mem} {o n : Int} {tm pb mn : Int → Int} {vs ac : Int → Prop} (h : BI M o tm pb mn vs ac n) (e : ∀ a k, o + 1 ≤ a ∧ a ≤ o + 5 → M' a k = M a k) : BI M' o tm pb mn vs ac n := by
  intro t t0 t1
  obtain ⟨h1, h2, h3, h4⟩ := h t t0 t1
  refine ⟨fun p p0 p1 => ?_, ?_, ?_, ?_⟩
  · rw [e _ _ (by omega), e _ _ (by omega)]; exact h1 p p0 p1
  · rw [e _ _ (by omega)]; exact h2
  · rw [e _ _ (by omega)]; exact h3
  · rw [e _ _ (by omega)]; exact h4
def LIK (M : Mem) (o q : Int) : Prop := M o 6 = M q 6 ∧ ∀ i, 0 ≤ i → i < M o 6 → M (o + 6) i = M (q + 6) i ∧ M (o + 3) i = M (q + 3) i ∧ M (o + 4) i = M (q + 4) i
