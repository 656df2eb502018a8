theorem Ahd.trans {M : Mem} {b x y z : Int} (h1 : Ahd M b x y) (h2 : Ahd M b y z) : Ahd M b x z := by unfold Ahd at *; omega
theorem Ahd.total {M : Mem} {b x y : Int} (h : ¬ Ahd M b x y) (hn : x ≠ y) : Ahd M b y x := by unfold Ahd at *; omega
theorem Ahd.irr {M : Mem} {b x : Int} : ¬ Ahd M b x x := by unfold Ahd; omega
/-- who stands last among those with pending runs -/
noncomputable def PIn (M : Mem) (t : Int) : Int := lst (fun p => 0 < pnd M t p) (M 468 9)
def OI (M : Mem) (w n : Int) : Prop := (w = -1 ∧ ∀ q, 0 ≤ q → q < n → PIn M q = -1) ∨ (0 ≤ w ∧ w < n ∧ PIn M w ≠ -1 ∧ ∀ q, 0 ≤ q → q < n → PIn M q ≠ -1 → q ≠ w → Ahd M 1 q w)
theorem OI.skip {M : Mem} {w n : Int} (h : OI M w n) (hp : PIn M n = -1) : OI M w (n + 1) := by
  rcases h with ⟨a, b⟩ | ⟨a, b, c, d⟩
  · exact Or.inl ⟨a, fun q q0 q1 => by
      rcases Int.lt_or_eq_of_le (show q ≤ n by omega) with e | e
      · exact b q q0 e
      · rw [e]; exact hp⟩
  · exact Or.inr ⟨a, by omega, c, fun q q0 q1 q2 q3 => by
      rcases Int.lt_or_eq_of_le (show q ≤ n by omega) with e | e
      · exact d q q0 e q2 q3
      · rw [e] at q2; exact absurd hp q2⟩
theorem OI.take {M : Mem} {w n : Int} (h : OI M w n) (n0 : 0 ≤ n) (hp : PIn M n ≠ -1) (hw : w = -1 ∨ Ahd M 1 w n) : OI M n (n + 1) := by
  refine Or.inr ⟨n0, by omega, hp, fun q q0 q1 q2 q3 => ?_⟩
  rcases h with ⟨a, b⟩ | ⟨a, b, c, d⟩
  · exact absurd (b q q0 (by omega)) q2
  · rcases hw with e | e
    · omega
    · by_cases e2 : q = w
      · rw [e2]; exact e
      · exact (d q q0 (by omega) q2 e2).trans e
theorem OI.keep {M : Mem} {w n : Int} (h : OI M w n) (h1 : w ≠ -1) (hw : ¬ Ahd M 1 w n) : OI M w (n + 1) := by
  rcases h with ⟨a, b⟩ | ⟨a, b, c, d⟩
  · exact absurd a h1
  · refine Or.inr ⟨a, by omega, c, fun q q0 q1 q2 q3 => ?_⟩
    rcases Int.lt_or_eq_of_le (show q ≤ n by omega) with e | e
    · exact d q q0 e q2 q3
    · rw [e]; exact Ahd.total hw (by omega)
theorem RB.opened {M M' : Mem} (I : RB M) (f : ∀ o k, o ≠ 496 → ¬ (o = 468 ∧ k = 0) → M' o k = M o k) (h : ∀ r, 0 ≤ r → r < 40 → M' 496 r = M 496 r ∨ (M' 496 r = 1 ∧ r < M 468 18)) : RB M' := by
  obtain ⟨r1, r2, r3, r4, r5, r6, r7, r8, r9, r10, r11⟩ := id I
  unfold RB
  simp (disch := omega) only [f]
  refine ⟨r1, r2, r3, r4, r5, r6, r7, r8, r9, fun r r0 r1' => ?_, r11⟩
  have e := r10 r r0 r1'
  rcases h r r0 r1' with w | ⟨w, w2⟩
  · rw [w]; exact e
  · rw [w]; omega
theorem RB.frz {M : Mem} {m z : Int} (I : RB M) (m0 : 0 ≤ m) (m1 : m ≤ 999) : RB (up (up M 468 0 z) 468 36 m) := by
  obtain ⟨r1, r2, r3, r4, r5, r6, r7, r8, r9, r10, r11⟩ := id I
  unfold RB
  simp (disch := omega) only [up_o, up_k, up_s]
  exact ⟨by omega, r2, r3, r4, r5, r6, r7, r8, r9, r10, r11⟩
theorem PIn_code {M : Mem} {c t : Int} : PIn (up M 468 0 c) t = PIn M t := by unfold PIn; simp (disch := omega) only [up_k, pnd_code]
theorem OI.at {M : Mem} {w n : Int} (h : OI M w n) (h1 : w ≠ -1) : 0 ≤ w ∧ w < n ∧ PIn M w ≠ -1 ∧ ∀ q, 0 ≤ q → q < n → PIn M q ≠ -1 → q ≠ w → Ahd M 1 q w := by
  rcases h with ⟨a, b⟩ | h
  · exact absurd a h1
  · exact h
theorem OI.none {M : Mem} {w n m : Int} (h : OI M w n) (h1 : w = -1) (h2 : n = m) : ∀ q, 0 ≤ q → q < m → PIn M q = -1 := by
  subst h2
  rcases h with ⟨a, b⟩ | h
  · exact b
  · omega
theorem pnd_at {M M1 : Mem} {w r : Int} (f : ∀ o k, o ≠ 496 → ¬ (o = 468 ∧ k = 0) → M1 o k = M o k) (hr : 0 ≤ r) (h : ∀ q, M1 496 q = @ite Int ((0 ≤ q ∧ q < r) ∧ M 481 q = w ∧ M 482 q = PIn M w ∧ Pnd M q) (Classical.propDecidable _) 1 (M 496 q)) {q : Int} (hq : r ≤ q) : Pnd M1 q ↔ Pnd M q := by
  unfold Pnd
  rw [h q, if_neg (by omega), f 468 36 (by omega) (by omega), f 483 q (by omega) (by omega)]
theorem PIn_rng {M : Mem} {t : Int} (h : 0 ≤ M 468 9) : PIn M t = -1 ∨ (0 ≤ PIn M t ∧ PIn M t < M 468 9) := lst_range _ h
