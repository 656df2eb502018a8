/-- the runs that a freeze at the minute m makes pending -/
def FZ1 (M : Mem) (m i : Int) (M1 : Mem) : Prop := M1 0 13 = m ∧ (∀ o k, ¬ (o = 0 ∧ k = 13) → (∀ r, 0 ≤ r → r < M 0 12 → ¬ (o = 8 * r + 148 ∧ k = 7)) → M1 o k = M o k) ∧ ∀ r, 0 ≤ r → r < i → M1 (8 * r + 148) 7 = if m ≤ M (8 * r + 148) 6 then 1 else 0
theorem FZ1.rd {M M1 : Mem} {m i o k : Int} (h : FZ1 M m i M1) (hk : k ≠ 7) (h2 : k ≠ 13) : M1 o k = M o k := h.2.1 o k (by omega) (fun r _ _ => by omega)
theorem FZ1.cr {M M1 : Mem} {m : Int} (C : CR M) (h : FZ1 M m (M 0 12) M1) (m0 : 0 ≤ m) (m1 : m ≤ 999) : CR M1 := by
  obtain ⟨c1, c2, c3⟩ := C
  have e : ∀ o k, k ≠ 7 → k ≠ 13 → M1 o k = M o k := fun o k a b => h.rd a b
  refine ⟨?_, fun r r0 r1 => ?_, fun p p0 p1 => ?_⟩
  · rw [e 0 10 (by omega) (by omega), e 0 11 (by omega) (by omega), e 0 12 (by omega) (by omega), h.1]; omega
  · rw [e 0 12 (by omega) (by omega)] at r1
    have c := c2 r r0 r1
    have h7 := h.2.2 r r0 r1
    have h77 : 0 ≤ M1 (8 * r + 148) 7 ∧ M1 (8 * r + 148) 7 ≤ 1 := by
      rw [h7]; split <;> omega
    rw [e 0 10 (by omega) (by omega), e 0 11 (by omega) (by omega), e _ 4 (by omega) (by omega), e _ 5 (by omega) (by omega), e _ 6 (by omega) (by omega), e _ 8 (by omega) (by omega), e _ 9 (by omega) (by omega)]
    omega
  · rw [e 0 10 (by omega) (by omega)] at p1
    rw [e _ 1 (by omega) (by omega), e _ 2 (by omega) (by omega), e _ 3 (by omega) (by omega)]
    exact c3 p p0 p1
/-- the runs of a team and a problem are opened -/
def OPN (M : Mem) (t p : Int) (M1 : Mem) : Prop := (∀ o k, (∀ r, 0 ≤ r → r < M 0 12 → ¬ (o = 8 * r + 148 ∧ k = 7)) → M1 o k = M o k) ∧ ∀ r, 0 ≤ r → r < M 0 12 → M1 (8 * r + 148) 7 = if M (8 * r + 148) 4 = t ∧ M (8 * r + 148) 5 = p then 0 else M (8 * r + 148) 7
theorem OPN.cr {M M1 : Mem} {t p : Int} (C : CR M) (h : OPN M t p M1) : CR M1 := by
  have e : ∀ o k, k ≠ 7 → M1 o k = M o k := fun o k a => h.1 o k (fun r _ _ => by omega)
  obtain ⟨c1, c2, c3⟩ := C
  refine ⟨?_, fun r r0 r1 => ?_, fun p p0 p1 => ?_⟩
  · rw [e 0 10 (by omega), e 0 11 (by omega), e 0 12 (by omega), e 0 13 (by omega)]; exact c1
  · rw [e 0 12 (by omega)] at r1
    have c := c2 r r0 r1
    have h7 := h.2 r r0 r1
    have h77 : 0 ≤ M1 (8 * r + 148) 7 ∧ M1 (8 * r + 148) 7 ≤ 1 := by
      rw [h7]; split <;> omega
    rw [e 0 10 (by omega), e 0 11 (by omega), e _ 4 (by omega), e _ 5 (by omega), e _ 6 (by omega), e _ 8 (by omega), e _ 9 (by omega)]
    omega
  · rw [e 0 10 (by omega)] at p1
    rw [e _ 1 (by omega), e _ 2 (by omega), e _ 3 (by omega)]
    exact c3 p p0 p1
