/-- a slot is given back -/
def RLs (M : Mem) (s : Int) (M' : Mem) : Prop := (s = -1 ∧ M' = M) ∨ (0 ≤ s ∧ s < 240 ∧ M' 16 s = M 16 s - 1 ∧ (∀ o k, ¬ (o = 16 ∧ k = s) → ¬ (o = 13 ∧ k = 3) → M' o k = M o k) ∧ ((M 16 s = 1 ∧ M' 13 3 = M 13 3 - 1) ∨ (M 16 s ≠ 1 ∧ M' 13 3 = M 13 3)))
/-- an output is kept, in the slot z -/
def KP (M : Mem) (n z : Int) (M' : Mem) : Prop := 0 ≤ z ∧ z < 240 ∧ (∀ o k, ¬ (13 ≤ o ∧ o ≤ 16) → M' o k = M o k) ∧ M' 16 z = M 16 z + 1 ∧ (∀ q, q ≠ z → M' 16 q = M 16 q) ∧ CT M' z n (fun k => M 12 k) ∧ (∀ q, q ≠ z → M' 15 q = M 15 q ∧ ∀ k, 0 ≤ k → k < 6 → M' 14 (q * 6 + k) = M 14 (q * 6 + k)) ∧
  ((0 < M 16 z ∧ M' 13 3 = M 13 3 ∧ CT M z n (fun k => M 12 k)) ∨ (M 16 z = 0 ∧ M' 13 3 = M 13 3 + 1 ∧ ∀ q, 0 ≤ q → q < 240 → 0 < M 16 q → ¬ CT M q n (fun k => M 12 k)))
theorem sl_out {M M' : Mem} (h : ∀ o k, 155 ≤ o → M' o k = M o k) {j : Int} (h0 : 0 ≤ j) : sl M' j = sl M j := h _ _ (by omega)
theorem SI.rel {M M' : Mem} {j : Int} (h : SI M (-1)) (j0 : 0 ≤ j) (j1 : j < 240) (hr : RLs M (sl M j) M') : SI M' j := by
  obtain ⟨h1, h2, h3, h4, h5⟩ := id h
  rcases hr with ⟨e, rfl⟩ | ⟨s0, s1, u1, u2, u3⟩
  · refine ⟨fun s s0 s1 => ?_, h2, h3, h4, h5⟩
    rw [h1 s s0 s1]
    exact cnt_congr (by omega) (fun z z0 z1 => ⟨fun q => ⟨fun w => by rw [w, e] at q; omega, q.2⟩, fun q => ⟨by omega, q.2⟩⟩)
  · have hsl : ∀ i, 0 ≤ i → sl M' i = sl M i := fun i i0 => u2 _ _ (by omega) (by omega)
    have hu : ∀ q, 0 ≤ q → q < 240 → M' 16 q = cnt (fun i => i ≠ j ∧ sl M' i = q) 240 := fun q q0 q1 => by
      have hc : cnt (fun i => i ≠ j ∧ sl M' i = q) 240 = cnt (fun i => i ≠ j ∧ sl M i = q) 240 := cnt_congr (by omega) (fun z z0 z1 => by rw [hsl z z0])
      rw [hc]
      by_cases e : q = sl M j
      · have h9 := cnt_one (P := fun i => i ≠ j ∧ sl M i = q) (Q := fun i => i ≠ -1 ∧ sl M i = q) (n := 240) j0 j1 (fun i i0 i1 hi => ⟨fun w => ⟨by omega, w.2⟩, fun w => ⟨hi, w.2⟩⟩) (fun w => w.1 rfl) ⟨by omega, e.symm⟩
        have h8 := h1 q q0 q1
        rw [e] at h9 h8 ⊢
        omega
      · rw [u2 _ _ (by omega) (by omega), h1 q q0 q1]
        exact cnt_congr (by omega) (fun z z0 z1 => ⟨fun w => ⟨fun w2 => by rw [w2] at w; exact e w.2.symm, w.2⟩, fun w => ⟨by omega, w.2⟩⟩)
    have hle : ∀ q, 0 ≤ q → q < 240 → 0 < M' 16 q → 0 < M 16 q := fun q q0 q1 hq => by
      by_cases e : q = sl M j
      · rw [e] at hq ⊢; omega
      · rw [u2 _ _ (by omega) (by omega)] at hq; exact hq
    refine ⟨hu, ?_, fun s q a0 a1 b0 b1 c1 c2 c3 => ?_, fun s a0 a1 c1 => ?_, fun i i0 i1 => by rw [hsl i i0]; exact h5 i i0 i1⟩
    · rcases u3 with ⟨v1, v2⟩ | ⟨v1, v2⟩
      · have h9 := cnt_one (P := fun s => 0 < M' 16 s) (Q := fun s => 0 < M 16 s) (n := 240) s0 s1 (fun i i0 i1 hi => by rw [u2 16 i (by omega) (by omega)]) (by omega) (by omega)
        omega
      · rw [v2, h2]
        refine cnt_congr (by omega) (fun z z0 z1 => ?_)
        by_cases e : z = sl M j
        · rw [e]
          have := h.users s0 s1
          have h6 := cnt_some (P := fun i => i ≠ -1 ∧ sl M i = sl M j) j0 j1 ⟨by omega, rfl⟩
          rw [← h1 _ s0 s1] at h6
          omega
        · rw [u2 16 z (by omega) (by omega)]
    · have := h3 s q a0 a1 b0 b1 (hle s a0 a1 c1) (hle q b0 b1 c2) c3
      rw [u2 15 s (by omega) (by omega), u2 15 q (by omega) (by omega)]
      intro w
      exact this ⟨w.1, fun k k0 k1 => by have := w.2 k k0 k1; rwa [u2 14 _ (by omega) (by omega), u2 14 _ (by omega) (by omega)] at this⟩
    · rw [u2 15 s (by omega) (by omega)]
      exact h4 s a0 a1 (hle s a0 a1 c1)
theorem SI.keep {M M' M2 : Mem} {j n z : Int} (h : SI M j) (j0 : 0 ≤ j) (j1 : j < 240) (hn : 0 ≤ n ∧ n ≤ 6) (K : KP M n z M') (h2 : ∀ o k, ¬ (o = 155 + 8 * (j / 6) ∧ k = j % 6) → (o < 17 ∨ (o - 155) % 8 = 0 ∧ 155 ≤ o ∧ o < 475) → M2 o k = M' o k) (h2z : M2 (155 + 8 * (j / 6)) (j % 6) = z) : SI M2 (-1) := by
  obtain ⟨g1, g2, g3, g4, g5⟩ := id h
  obtain ⟨z0, z1, k1, k2, k3, k4, k5, k6⟩ := K
  have hsj : sl M2 j = z := h2z
  have hsl : ∀ i, 0 ≤ i → i < 240 → i ≠ j → sl M2 i = sl M i := fun i i0 i1 hi => by
    show M2 _ _ = M _ _
    rw [h2 _ _ (by omega) (by omega), k1 _ _ (by omega)]
  have e16 : ∀ q, M2 16 q = M' 16 q := fun q => h2 _ _ (by omega) (by omega)
  have e15 : ∀ q, M2 15 q = M' 15 q := fun q => h2 _ _ (by omega) (by omega)
  have e14 : ∀ q, M2 14 q = M' 14 q := fun q => h2 _ _ (by omega) (by omega)
  have ez := h.users z0 z1
  have hu : ∀ q, 0 ≤ q → q < 240 → M2 16 q = cnt (fun i => i ≠ -1 ∧ sl M2 i = q) 240 := fun q q0 q1 => by
    rw [e16]
    by_cases e : q = z
    · have h9 := cnt_one (P := fun i => i ≠ j ∧ sl M i = q) (Q := fun i => i ≠ -1 ∧ sl M2 i = q) (n := 240) j0 j1 (fun i i0 i1 hi => by rw [hsl i i0 i1 hi]; exact ⟨fun w => ⟨by omega, w.2⟩, fun w => ⟨hi, w.2⟩⟩) (fun w => w.1 rfl) ⟨by omega, by rw [hsj, e]⟩
      have h8 := g1 q q0 q1
      rw [e] at h9 h8 ⊢
      omega
    · rw [k3 q e, g1 q q0 q1]
      refine cnt_congr (by omega) (fun i i0 i1 => ?_)
      by_cases w : i = j
      · rw [w, hsj]
        exact ⟨fun y => absurd rfl y.1, fun y => absurd y.2.symm e⟩
      · rw [hsl i i0 i1 w]
        exact ⟨fun y => ⟨by omega, y.2⟩, fun y => ⟨w, y.2⟩⟩
  have hpos : ∀ q, 0 ≤ q → q < 240 → q ≠ z → 0 < M2 16 q → 0 < M 16 q := fun q q0 q1 hq w => by rw [e16, k3 q hq] at w; exact w
  have hold : ∀ q, q ≠ z → M2 15 q = M 15 q ∧ ∀ k, 0 ≤ k → k < 6 → M2 14 (q * 6 + k) = M 14 (q * 6 + k) := fun q hq => ⟨by rw [e15]; exact (k5 q hq).1, fun k a b => by rw [e14]; exact (k5 q hq).2 k a b⟩
  have hzc : M2 15 z = n ∧ ∀ k, 0 ≤ k → k < n → M2 14 (z * 6 + k) = M 12 k := ⟨by rw [e15]; exact k4.1, fun k a b => by rw [e14]; exact k4.2 k a b⟩
  -- another slot in use isn't like z
  have hne : ∀ q, 0 ≤ q → q < 240 → q ≠ z → 0 < M 16 q → ¬ CT M q n (fun k => M 12 k) := fun q q0 q1 hq w c => by
    rcases k6 with ⟨a, b, d⟩ | ⟨a, b, c2⟩
    · exact g3 q z q0 q1 z0 z1 w a hq ⟨c.1.trans d.1.symm, fun k x0 x1 => (c.2 k x0 (by rw [← c.1]; exact x1)).trans (d.2 k x0 (by rw [← c.1]; exact x1)).symm⟩
    · exact c2 q q0 q1 w c
  refine ⟨hu, ?_, fun s q a0 a1 b0 b1 c1 c2 c3 => ?_, fun s a0 a1 c1 => ?_, fun i i0 i1 => ?_⟩
  · rw [h2 _ _ (by omega) (by omega)]
    rcases k6 with ⟨a, b, -⟩ | ⟨a, b, -⟩
    · rw [b, g2]
      refine cnt_congr (by omega) (fun q q0 q1 => ?_)
      rw [e16]
      by_cases e : q = z
      · rw [e]; omega
      · rw [k3 q e]
    · have h9 := cnt_one (P := fun s => 0 < M 16 s) (Q := fun s => 0 < M2 16 s) (n := 240) z0 z1 (fun i i0 i1 hi => by rw [e16, k3 i hi]) (by omega) (by rw [e16]; omega)
      omega
  · rintro ⟨w1, w2⟩
    by_cases es : s = z
    · have hq : q ≠ z := fun y => c3 (es.trans y.symm)
      refine hne q b0 b1 hq (hpos q b0 b1 hq c2) ⟨?_, fun k x0 x1 => ?_⟩
      · rw [← (hold q hq).1, ← w1, es]; exact hzc.1
      · rw [es, hzc.1] at w1 w2
        rw [← (hold q hq).2 k x0 (by omega), ← w2 k x0 x1]
        exact hzc.2 k x0 x1
    · by_cases eq : q = z
      · refine hne s a0 a1 es (hpos s a0 a1 es c1) ⟨?_, fun k x0 x1 => ?_⟩
        · rw [← (hold s es).1, w1, eq]; exact hzc.1
        · have w1' : M2 15 s = n := by rw [w1, eq]; exact hzc.1
          rw [← (hold s es).2 k x0 (by omega), w2 k x0 (by omega), eq]
          exact hzc.2 k x0 x1
      · have hs6 := g4 s a0 a1 (hpos s a0 a1 es c1)
        refine g3 s q a0 a1 b0 b1 (hpos s a0 a1 es c1) (hpos q b0 b1 eq c2) c3 ⟨?_, fun k x0 x1 => ?_⟩
        · rw [← (hold s es).1, ← (hold q eq).1]; exact w1
        · rw [← (hold s es).2 k x0 (by omega), ← (hold q eq).2 k x0 (by omega)]
          exact w2 k x0 (by rw [(hold s es).1]; exact x1)
  · by_cases es : s = z
    · rw [es, hzc.1]; omega
    · rw [(hold s es).1]; exact g4 s a0 a1 (hpos s a0 a1 es c1)
  · by_cases e : i = j
    · rw [e, hsj]; omega
    · rw [hsl i i0 i1 e]; exact g5 i i0 i1
theorem KP.found {M : Mem} {n z : Int} (z0 : 0 ≤ z) (z1 : z < 240) (hp : 0 < M 16 z) (hc : CT M z n (fun k => M 12 k)) : KP M n z (up M 16 z (M 16 z + 1)) := by
  refine ⟨z0, z1, fun o k h => up_o (by omega), up_s _ _ _ _, fun q hq => up_k hq, ⟨by rw [up_o (by omega)]; exact hc.1, fun k a b => by rw [up_o (by omega)]; exact hc.2 k a b⟩, fun q hq => ⟨up_o (by omega), fun k a b => up_o (by omega)⟩, Or.inl ⟨hp, up_o (by omega), hc⟩⟩
theorem KP.fresh {M M2 : Mem} {n z : Int} (z0 : 0 ≤ z) (z1 : z < 240) (hp : M 16 z = 0) (hno : ∀ q, 0 ≤ q → q < 240 → ¬ (0 < M 16 q ∧ CT M q n (fun k => M 12 k))) (h1 : ∀ o k, ¬ (o = 14 ∧ z * 6 ≤ k ∧ k < z * 6 + 6) → ¬ (o = 15 ∧ k = z) → M2 o k = M o k) (h2 : CT M2 z n (fun k => M 12 k)) : KP M n z (up (up M2 13 3 (M 13 3 + 1)) 16 z (M 16 z + 1)) := by
  refine ⟨z0, z1, fun o k h => ?_, up_s _ _ _ _, fun q hq => ?_, ⟨?_, fun k a b => ?_⟩, fun q hq => ⟨?_, fun k a b => ?_⟩, Or.inr ⟨hp, ?_, fun q q0 q1 w c => hno q q0 q1 ⟨w, c⟩⟩⟩
  · rw [up_o (by omega), up_o (by omega)]; exact h1 o k (by omega) (by omega)
  · rw [up_k hq, up_o (by omega)]; exact h1 _ _ (by omega) (by omega)
  · rw [up_o (by omega), up_o (by omega)]; exact h2.1
  · rw [up_o (by omega), up_o (by omega)]; exact h2.2 k a b
  · rw [up_o (by omega), up_o (by omega)]; exact h1 _ _ (by omega) (by omega)
  · rw [up_o (by omega), up_o (by omega)]; exact h1 _ _ (by omega) (by omega)
  · rw [up_o (by omega), up_s]
/-- judging run r by test t: what the class's memory is then -/
def JG (M : Mem) (r t pr nu lim : Int) (M' : Mem) : Prop := (∀ o k, ¬ (10 ≤ o ∧ o ≤ 16) → ¬ (8 * r + 153 ≤ o ∧ o ≤ 8 * r + 155 ∧ k = t) → M' o k = M o k) ∧ SI M' (-1) ∧
  JEa M nu (JA M pr nu lim) (M' (8 * r + 153) t) ∧ (M' (8 * r + 153) t = 111 ∨ M' (8 * r + 153) t = 119 ∨ M' (8 * r + 153) t = 114 ∨ M' (8 * r + 153) t = 108 ∨ M' (8 * r + 153) t = 116) ∧ M' (8 * r + 154) t = (JA M pr nu lim) 5 0 ∧ 0 ≤ M' (8 * r + 155) t ∧ M' (8 * r + 155) t < 240 ∧
  CT M' (M' (8 * r + 155) t) ((JA M pr nu lim) 2 0) ((JA M pr nu lim) 1) ∧ (0 ≤ (JA M pr nu lim) 2 0 ∧ (JA M pr nu lim) 2 0 ≤ 6) ∧
  ∀ j, 0 ≤ j → j < 240 → j ≠ 6 * r + t → 0 ≤ sl M j → M' 15 (sl M j) = M 15 (sl M j) ∧ ∀ k, 0 ≤ k → k < M 15 (sl M j) → M' 14 (sl M j * 6 + k) = M 14 (sl M j * 6 + k)
theorem JG.of {M M2 M3 M4 : Mem} {r t pr nu lim z : Int} (r0 : 0 ≤ r) (r1 : r < 40) (t0 : 0 ≤ t) (t1 : t < 6) (hI : SI M (-1)) (hE : EXP M pr nu lim M2) (hR : RLs M2 (M (8 * r + 155) t) M3) (hK : KP M3 (M2 10 2) z M4) : JG M r t pr nu lim (up (up (up M4 (8 * r + 155) t z) (8 * r + 153) t (M2 10 6)) (8 * r + 154) t (M2 10 5)) := by
  obtain ⟨x1, x2, x3, x4, x5, x6, x7, x8, x9, x10⟩ := id hE
  have hj : sl M (6 * r + t) = M (8 * r + 155) t := by unfold sl; rw [show (6 * r + t) / 6 = r by omega, show (6 * r + t) % 6 = t by omega, show 155 + 8 * r = 8 * r + 155 by omega]
  have hI2 : SI M2 (-1) := by
    have hs : ∀ j, 0 ≤ j → sl M2 j = sl M j := fun j j0 => sl_out (fun o k h => x1 o k (by omega)) j0
    obtain ⟨g1, g2, g3, g4, g5⟩ := hI
    refine ⟨fun s s0 s1 => ?_, ?_, fun s q a0 a1 b0 b1 c1 c2 c3 => ?_, fun s a0 a1 c1 => ?_, fun i i0 i1 => by rw [hs i i0]; exact g5 i i0 i1⟩
    · rw [x1 _ _ (by omega), g1 s s0 s1]; exact cnt_congr (by omega) (fun i i0 i1 => by rw [hs i i0])
    · rw [x1 _ _ (by omega), g2]; exact cnt_congr (by omega) (fun i i0 i1 => by rw [x1 16 i (by omega)])
    · rw [x1 16 _ (by omega)] at c1 c2
      rw [x1 15 _ (by omega), x1 15 _ (by omega)]
      exact fun w => g3 s q a0 a1 b0 b1 c1 c2 c3 ⟨w.1, fun k k0 k1 => by have := w.2 k k0 k1; rwa [x1 14 _ (by omega), x1 14 _ (by omega)] at this⟩
    · rw [x1 16 _ (by omega)] at c1
      rw [x1 15 _ (by omega)]; exact g4 s a0 a1 c1
  have hs2 : sl M2 (6 * r + t) = M (8 * r + 155) t := by rw [sl_out (fun o k h => x1 o k (by omega)) (by omega), hj]
  have hI3 : SI M3 (6 * r + t) := hI2.rel (by omega) (by omega) (by rw [hs2]; exact hR)
  have hM3 : ∀ o k, ¬ (10 ≤ o ∧ o ≤ 16) → M3 o k = M o k := fun o k h => by
    rcases hR with ⟨-, rfl⟩ | ⟨s0, s1, u1, u2, u3⟩
    · exact x1 o k (by omega)
    · rw [u2 o k (by omega) (by omega)]; exact x1 o k (by omega)
  have h12 : ∀ k, M3 12 k = M2 12 k := fun k => by
    rcases hR with ⟨-, rfl⟩ | ⟨s0, s1, u1, u2, u3⟩
    · rfl
    · exact u2 _ _ (by omega) (by omega)
  obtain ⟨z0, z1, k1, k2, k3, k4, k5, k6⟩ := id hK
  have hn6 : 0 ≤ M2 10 2 ∧ M2 10 2 ≤ 6 := by omega
  have hI5 : SI (up (up (up M4 (8 * r + 155) t z) (8 * r + 153) t (M2 10 6)) (8 * r + 154) t (M2 10 5)) (-1) := by
    refine hI3.keep (by omega) (by omega) hn6 hK (fun o k h h9 => ?_) ?_
    · rw [show (6 * r + t) / 6 = r by omega, show (6 * r + t) % 6 = t by omega] at h
      rw [up_n (by omega), up_n (by omega), up_n (by omega)]
    · rw [show (6 * r + t) / 6 = r by omega, show (6 * r + t) % 6 = t by omega, show 155 + 8 * r = 8 * r + 155 by omega, up_o (by omega), up_o (by omega), up_s]
  have e1 : (up (up (up M4 (8 * r + 155) t z) (8 * r + 153) t (M2 10 6)) (8 * r + 154) t (M2 10 5)) (8 * r + 155) t = z := by rw [up_o (by omega), up_o (by omega), up_s]
  have e2 : (up (up (up M4 (8 * r + 155) t z) (8 * r + 153) t (M2 10 6)) (8 * r + 154) t (M2 10 5)) (8 * r + 153) t = M2 10 6 := by rw [up_o (by omega), up_s]
  refine ⟨fun o k h1 h2 => ?_, hI5, ?_, ?_, ?_, ?_, ?_, ?_, ⟨x6, x7⟩, fun j j0 j1 hne hs => ?_⟩
  · rw [up_n (by omega), up_n (by omega), up_n (by omega), k1 _ _ (by omega)]; exact hM3 o k h1
  · rw [e2]; exact x5
  · rw [e2]; exact x10
  · rw [up_s, x4]
  · rw [e1]; exact z0
  · rw [e1]; exact z1
  · rw [e1]
    refine ⟨?_, fun k a b => ?_⟩
    · rw [up_o (by omega), up_o (by omega), up_o (by omega), k4.1, x2]
    · rw [up_o (by omega), up_o (by omega), up_o (by omega), k4.2 k a (by omega)]
      show M3 12 k = _
      rw [h12]; exact x3 k a b
  · have hu : 0 < M3 16 (sl M j) := by
      have hs1 : sl M j < 240 := by have := hI.2.2.2.2 j j0 j1; omega
      rw [hI3.1 _ hs hs1]
      refine cnt_some j0 j1 ⟨hne, ?_⟩
      exact sl_out (fun o k h => hM3 o k (by omega)) j0
    have h14 : ∀ o k, o = 14 ∨ o = 15 → M3 o k = M o k := fun o k h => by
      rcases hR with ⟨-, rfl⟩ | ⟨s0, s1, u1, u2, u3⟩
      · exact x1 o k (by omega)
      · rw [u2 o k (by omega) (by omega)]; exact x1 o k (by omega)
    by_cases ez : sl M j = z
    · -- the slot was found: it holds what it held
      rcases k6 with ⟨a, b, d⟩ | ⟨a, b, d⟩
      · have q1 : M4 15 z = M 15 z := by rw [k4.1, ← h14 15 z (by omega)]; exact d.1.symm
        refine ⟨?_, fun k a0 a1 => ?_⟩
        · rw [up_o (by omega), up_o (by omega), up_o (by omega), ez]; exact q1
        · rw [ez] at a1
          have q2 : k < M2 10 2 := by rw [← q1, k4.1] at a1; exact a1
          rw [up_o (by omega), up_o (by omega), up_o (by omega), ez, k4.2 k a0 q2, ← h14 14 _ (by omega)]
          exact (d.2 k a0 q2).symm
      · rw [ez] at hu; omega
    · refine ⟨?_, fun k a0 a1 => ?_⟩
      · rw [up_o (by omega), up_o (by omega), up_o (by omega), (k5 _ ez).1]; exact h14 _ _ (by omega)
      · have hs1 : sl M j < 240 := by have := hI.2.2.2.2 j j0 j1; omega
        have h6 := hI3.2.2.2.1 (sl M j) hs hs1 hu
        rw [h14 15 _ (by omega)] at h6
        rw [up_o (by omega), up_o (by omega), up_o (by omega), (k5 _ ez).2 k a0 (by omega)]; exact h14 _ _ (by omega)
theorem JG.mid {M M2 M3 : Mem} {r t pr nu lim : Int} (r0 : 0 ≤ r) (r1 : r < 40) (t0 : 0 ≤ t) (t1 : t < 6) (hI : SI M (-1)) (hE : EXP M pr nu lim M2) (hR : RLs M2 (M (8 * r + 155) t) M3) : SI M3 (6 * r + t) ∧ (∀ o k, ¬ (10 ≤ o ∧ o ≤ 16) → M3 o k = M o k) ∧ ∀ o k, 10 ≤ o ∧ o ≤ 12 → M3 o k = M2 o k := by
  obtain ⟨x1, x2, x3, x4, x5, x6, x7, x8, x9, x10⟩ := id hE
  have hj : sl M (6 * r + t) = M (8 * r + 155) t := by unfold sl; rw [show (6 * r + t) / 6 = r by omega, show (6 * r + t) % 6 = t by omega, show 155 + 8 * r = 8 * r + 155 by omega]
  have hI2 : SI M2 (-1) := by
    have hs : ∀ j, 0 ≤ j → sl M2 j = sl M j := fun j j0 => sl_out (fun o k h => x1 o k (by omega)) j0
    obtain ⟨g1, g2, g3, g4, g5⟩ := hI
    refine ⟨fun s s0 s1 => ?_, ?_, fun s q a0 a1 b0 b1 c1 c2 c3 => ?_, fun s a0 a1 c1 => ?_, fun i i0 i1 => by rw [hs i i0]; exact g5 i i0 i1⟩
    · rw [x1 _ _ (by omega), g1 s s0 s1]; exact cnt_congr (by omega) (fun i i0 i1 => by rw [hs i i0])
    · rw [x1 _ _ (by omega), g2]; exact cnt_congr (by omega) (fun i i0 i1 => by rw [x1 16 i (by omega)])
    · rw [x1 16 _ (by omega)] at c1 c2
      rw [x1 15 _ (by omega), x1 15 _ (by omega)]
      exact fun w => g3 s q a0 a1 b0 b1 c1 c2 c3 ⟨w.1, fun k k0 k1 => by have := w.2 k k0 k1; rwa [x1 14 _ (by omega), x1 14 _ (by omega)] at this⟩
    · rw [x1 16 _ (by omega)] at c1
      rw [x1 15 _ (by omega)]; exact g4 s a0 a1 c1
  have hs2 : sl M2 (6 * r + t) = M (8 * r + 155) t := by rw [sl_out (fun o k h => x1 o k (by omega)) (by omega), hj]
  refine ⟨hI2.rel (by omega) (by omega) (by rw [hs2]; exact hR), fun o k h => ?_, fun o k h => ?_⟩
  · rcases hR with ⟨-, rfl⟩ | ⟨s0, s1, u1, u2, u3⟩
    · exact x1 o k (by omega)
    · rw [u2 o k (by omega) (by omega)]; exact x1 o k (by omega)
  · rcases hR with ⟨-, rfl⟩ | ⟨s0, s1, u1, u2, u3⟩
    · rfl
    · exact u2 o k (by omega) (by omega)
