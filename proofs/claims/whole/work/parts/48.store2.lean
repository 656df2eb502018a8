/-- a slot is given back -/
def RLs (M : Mem) (s : Int) (M' : Mem) : Prop := (s = -1 ∧ M' = M) ∨ (0 ≤ s ∧ s < 240 ∧ M' 16 s = M 16 s - 1 ∧ (∀ o k, ¬ (o = 16 ∧ k = s) → ¬ (o = 13 ∧ k = 3) → M' o k = M o k) ∧ ((M 16 s = 1 ∧ M' 13 3 = M 13 3 - 1) ∨ (M 16 s ≠ 1 ∧ M' 13 3 = M 13 3)))
/-- an output is kept, in the slot z -/
def KP (M : Mem) (n z : Int) (M' : Mem) : Prop := 0 ≤ z ∧ z < 240 ∧ (∀ o k, ¬ (13 ≤ o ∧ o ≤ 16) → M' o k = M o k) ∧ M' 16 z = M 16 z + 1 ∧ (∀ q, q ≠ z → M' 16 q = M 16 q) ∧ CT M' z n (fun k => M 12 k) ∧ (∀ q, q ≠ z → M' 15 q = M 15 q ∧ ∀ k, 0 ≤ k → k < 6 → M' 14 (q * 6 + k) = M 14 (q * 6 + k)) ∧
  ((0 < M 16 z ∧ M' 13 3 = M 13 3 ∧ CT M z n (fun k => M 12 k)) ∨ (M 16 z = 0 ∧ M' 13 3 = M 13 3 + 1 ∧ ∀ q, 0 ≤ q → q < 240 → 0 < M 16 q → ¬ CT M q n (fun k => M 12 k)))
theorem sl_out {M M' : Mem} (h : ∀ o k, 155 ≤ o → M' o k = M o k) {j : Int} (h0 : 0 ≤ j) : sl M' j = sl M j := h _ _ (by omega)
theorem SI.rel {M M' : Mem} {j : Int} (h : SI M (-1)) (j0 : 0 ≤ j) (j1 : j < 240) (hr : RLs M (sl M j) M') : SI M' j := by
  obtain ⟨h1, h2, h3, h4, h5⟩ := id h
  rcases hr with ⟨e, rfl⟩ | ⟨s0, s1, u1, u2, u3⟩
  · refine ⟨fun s s0 s1 => ?_, h2, h3, h4, h5⟩
    rw [h1 s s0 s1]
    exact cnt_congr (by omega) (fun z z0 z1 => ⟨fun q => ⟨fun w => by rw [w, e] at q; omega, q.2⟩, fun q => ⟨by omega, q.2⟩⟩)
  · have hsl : ∀ i, 0 ≤ i → sl M' i = sl M i := fun i i0 => u2 _ _ (by omega) (by omega)
    have hu : ∀ q, 0 ≤ q → q < 240 → M' 16 q = cnt (fun i => i ≠ j ∧ sl M' i = q) 240 := fun q q0 q1 => by
      have hc : cnt (fun i => i ≠ j ∧ sl M' i = q) 240 = cnt (fun i => i ≠ j ∧ sl M i = q) 240 := cnt_congr (by omega) (fun z z0 z1 => by rw [hsl z z0])
      rw [hc]
      by_cases e : q = sl M j
      · have h9 := cnt_one (P := fun i => i ≠ j ∧ sl M i = q) (Q := fun i => i ≠ -1 ∧ sl M i = q) (n := 240) j0 j1 (fun i i0 i1 hi => ⟨fun w => ⟨by omega, w.2⟩, fun w => ⟨hi, w.2⟩⟩) (fun w => w.1 rfl) ⟨by omega, e.symm⟩
        have h8 := h1 q q0 q1
        rw [e] at h9 h8 ⊢
        omega
      · rw [u2 _ _ (by omega) (by omega), h1 q q0 q1]
        exact cnt_congr (by omega) (fun z z0 z1 => ⟨fun w => ⟨fun w2 => by rw [w2] at w; exact e w.2.symm, w.2⟩, fun w => ⟨by omega, w.2⟩⟩)
    have hle : ∀ q, 0 ≤ q → q < 240 → 0 < M' 16 q → 0 < M 16 q := fun q q0 q1 hq => by
      by_cases e : q = sl M j
      · rw [e] at hq ⊢; omega
      · rw [u2 _ _ (by omega) (by omega)] at hq; exact hq
    refine ⟨hu, ?_, fun s q a0 a1 b0 b1 c1 c2 c3 => ?_, fun s a0 a1 c1 => ?_, fun i i0 i1 => by rw [hsl i i0]; exact h5 i i0 i1⟩
    · rcases u3 with ⟨v1, v2⟩ | ⟨v1, v2⟩
      · have h9 := cnt_one (P := fun s => 0 < M' 16 s) (Q := fun s => 0 < M 16 s) (n := 240) s0 s1 (fun i i0 i1 hi => by rw [u2 16 i (by omega) (by omega)]) (by omega) (by omega)
        omega
      · rw [v2, h2]
        refine cnt_congr (by omega) (fun z z0 z1 => ?_)
        by_cases e : z = sl M j
        · rw [e]
          have := h.users s0 s1
          have h6 := cnt_some (P := fun i => i ≠ -1 ∧ sl M i = sl M j) j0 j1 ⟨by omega, rfl⟩
          rw [← h1 _ s0 s1] at h6
          omega
        · rw [u2 16 z (by omega) (by omega)]
    · have := h3 s q a0 a1 b0 b1 (hle s a0 a1 c1) (hle q b0 b1 c2) c3
      rw [u2 15 s (by omega) (by omega), u2 15 q (by omega) (by omega)]
      intro w
      exact this ⟨w.1, fun k k0 k1 => by have := w.2 k k0 k1; rwa [u2 14 _ (by omega) (by omega), u2 14 _ (by omega) (by omega)] at this⟩
    · rw [u2 15 s (by omega) (by omega)]
      exact h4 s a0 a1 (hle s a0 a1 c1)
theorem SI.keep {M M' M2 : Mem} {j n z : Int} (h : SI M j) (j0 : 0 ≤ j) (j1 : j < 240) (hn : 0 ≤ n ∧ n ≤ 6) (K : KP M n z M') (h2 : ∀ o k, ¬ (o = 155 + 8 * (j / 6) ∧ k = j % 6) → (o < 17 ∨ (o - 155) % 8 = 0 ∧ 155 ≤ o ∧ o < 475) → M2 o k = M' o k) (h2z : M2 (155 + 8 * (j / 6)) (j % 6) = z) : SI M2 (-1) := by
  obtain ⟨g1, g2, g3, g4, g5⟩ := id h
  obtain ⟨z0, z1, k1, k2, k3, k4, k5, k6⟩ := K
  have hsj : sl M2 j = z := h2z
  have hsl : ∀ i, 0 ≤ i → i < 240 → i ≠ j → sl M2 i = sl M i := fun i i0 i1 hi => by
    show M2 _ _ = M _ _
    rw [h2 _ _ (by omega) (by omega), k1 _ _ (by omega)]
  have e16 : ∀ q, M2 16 q = M' 16 q := fun q => h2 _ _ (by omega) (by omega)
  have e15 : ∀ q, M2 15 q = M' 15 q := fun q => h2 _ _ (by omega) (by omega)
  have e14 : ∀ q, M2 14 q = M' 14 q := fun q => h2 _ _ (by omega) (by omega)
  have ez := h.users z0 z1
  have hu : ∀ q, 0 ≤ q → q < 240 → M2 16 q = cnt (fun i => i ≠ -1 ∧ sl M2 i = q) 240 := fun q q0 q1 => by
    rw [e16]
    by_cases e : q = z
    · have h9 := cnt_one (P := fun i => i ≠ j ∧ sl M i = q) (Q := fun i => i ≠ -1 ∧ sl M2 i = q) (n := 240) j0 j1 (fun i i0 i1 hi => by rw [hsl i i0 i1 hi]; exact ⟨fun w => ⟨by omega, w.2⟩, fun w => ⟨hi, w.2⟩⟩) (fun w => w.1 rfl) ⟨by omega, by rw [hsj, e]⟩
      have h8 := g1 q q0 q1
      rw [e] at h9 h8 ⊢
      omega
    · rw [k3 q e, g1 q q0 q1]
      refine cnt_congr (by omega) (fun i i0 i1 => ?_)
      by_cases w : i = j
      · rw [w, hsj]
        exact ⟨fun y => absurd rfl y.1, fun y => absurd y.2.symm e⟩
      · rw [hsl i i0 i1 w]
        exact ⟨fun y => ⟨by omega, y.2⟩, fun y => ⟨w, y.2⟩⟩
  have hpos : ∀ q, 0 ≤ q → q < 240 → q ≠ z → 0 < M2 16 q → 0 < M 16 q := fun q q0 q1 hq w => by rw [e16, k3 q hq] at w; exact w
  have hold : ∀ q, q ≠ z → M2 15 q = M 15 q ∧ ∀ k, 0 ≤ k → k < 6 → M2 14 (q * 6 + k) = M 14 (q * 6 + k) := fun q hq => ⟨by rw [e15]; exact (k5 q hq).1, fun k a b => by rw [e14]; exact (k5 q hq).2 k a b⟩
  have hzc : M2 15 z = n ∧ ∀ k, 0 ≤ k → k < n → M2 14 (z * 6 + k) = M 12 k := ⟨by rw [e15]; exact k4.1, fun k a b => by rw [e14]; exact k4.2 k a b⟩
  -- another slot in use isn't like z
  have hne : ∀ q, 0 ≤ q → q < 240 → q ≠ z → 0 < M 16 q → ¬ CT M q n (fun k => M 12 k) := fun q q0 q1 hq w c => by
    rcases k6 with ⟨a, b, d⟩ | ⟨a, b, c2⟩
    · exact g3 q z q0 q1 z0 z1 w a hq ⟨c.1.trans d.1.symm, fun k x0 x1 => (c.2 k x0 (by rw [← c.1]; exact x1)).trans (d.2 k x0 (by rw [← c.1]; exact x1)).symm⟩
    · exact c2 q q0 q1 w c
  refine ⟨hu, ?_, fun s q a0 a1 b0 b1 c1 c2 c3 => ?_, fun s a0 a1 c1 => ?_, fun i i0 i1 => ?_⟩
  · rw [h2 _ _ (by omega) (by omega)]
    rcases k6 with ⟨a, b, -⟩ | ⟨a, b, -⟩
    · rw [b, g2]
      refine cnt_congr (by omega) (fun q q0 q1 => ?_)
      rw [e16]
      by_cases e : q = z
      · rw [e]; omega
      · rw [k3 q e]
    · have h9 := cnt_one (P := fun s => 0 < M 16 s) (Q := fun s => 0 < M2 16 s) (n := 240) z0 z1 (fun i i0 i1 hi => by rw [e16, k3 i hi]) (by omega) (by rw [e16]; omega)
      omega
  · rintro ⟨w1, w2⟩
    by_cases es : s = z
    · have hq : q ≠ z := fun y => c3 (es.trans y.symm)
      refine hne q b0 b1 hq (hpos q b0 b1 hq c2) ⟨?_, fun k x0 x1 => ?_⟩
      · rw [← (hold q hq).1, ← w1, es]; exact hzc.1
      · rw [es, hzc.1] at w1 w2
        rw [← (hold q hq).2 k x0 (by omega), ← w2 k x0 x1]
        exact hzc.2 k x0 x1
    · by_cases eq : q = z
      · refine hne s a0 a1 es (hpos s a0 a1 es c1) ⟨?_, fun k x0 x1 => ?_⟩
        · rw [← (hold s es).1, w1, eq]; exact hzc.1
        · have w1' : M2 15 s = n := by rw [w1, eq]; exact hzc.1
          rw [← (hold s es).2 k x0 (by omega), w2 k x0 (by omega), eq]
          exact hzc.2 k x0 x1
      · have hs6 := g4 s a0 a1 (hpos s a0 a1 es c1)
        refine g3 s q a0 a1 b0 b1 (hpos s a0 a1 es c1) (hpos q b0 b1 eq c2) c3 ⟨?_, fun k x0 x1 => ?_⟩
        · rw [← (hold s es).1, ← (hold q eq).1]; exact w1
        · rw [← (hold s es).2 k x0 (by omega), ← (hold q eq).2 k x0 (by omega)]
          exact w2 k x0 (by rw [(hold s es).1]; exact x1)
  · by_cases es : s = z
    · rw [es, hzc.1]; omega
    · rw [(hold s es).1]; exact g4 s a0 a1 (hpos s a0 a1 es c1)
  · by_cases e : i = j
    · rw [e, hsj]; omega
    · rw [hsl i i0 i1 e]; exact g5 i i0 i1
