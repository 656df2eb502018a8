/-! a run is taken, in the reference -/
def SBf (r o k : Int) : Prop := (481 ≤ o ∧ o ≤ 484 ∧ k = r) ∨ (485 ≤ o ∧ o ≤ 487 ∧ 20 * r ≤ k ∧ k < 20 * r + 20) ∨ (o = 468 ∧ (k = 0 ∨ k = 18))
def SB0 (M : Mem) (t p mn n : Int) (M1 : Mem) : Prop := M1 468 0 = 0 ∧ M1 481 (M 468 18) = t ∧ M1 482 (M 468 18) = p ∧ M1 483 (M 468 18) = mn ∧ M1 484 (M 468 18) = M 468 1 ∧ (∀ k, 0 ≤ k → k < n → M1 485 (20 * M 468 18 + k) = M 469 k ∧ M1 486 (20 * M 468 18 + k) = M 470 k ∧ M1 487 (20 * M 468 18 + k) = M 471 k) ∧ ∀ o k, ¬ SBf (M 468 18) o k → M1 o k = M o k
def SUBd (M : Mem) (t p mn : Int) (M1 : Mem) : Prop := SB0 M t p mn (M 468 1) M1 ∧ M1 468 18 = M 468 18 + 1
/-- the results of the run r by its first n tests are those of judging it -/
def JS (M1 : Mem) (r n : Int) (V : Mem) : Prop := (∀ o k, ¬ (488 ≤ o ∧ o ≤ 492) → V o k = M1 o k) ∧ (∀ q u, 0 ≤ q → 0 ≤ u → u < 6 → ¬ (q = r ∧ u < n) → SAM M1 V q u) ∧ ∀ u, 0 ≤ u → u < n → RES M1 r u V
theorem JS.ini {M1 : Mem} {r : Int} : JS M1 r 0 M1 := ⟨fun _ _ _ => rfl, fun q u _ _ _ _ => ⟨rfl, rfl, rfl, fun _ _ _ => rfl⟩, fun u _ _ => by omega⟩
theorem JS.step {M1 V V' : Mem} {r n : Int} (h : JS M1 r n V) (n0 : 0 ≤ n) (n1 : n < 6) (hj : JP V r n V') : JS M1 r (n + 1) V' := by
  obtain ⟨a1, a2, a3⟩ := h
  have f := hj.1
  refine ⟨fun o k ho => (f o k (by unfold jT; omega) (by omega)).trans (a1 o k ho), fun q u q0 u0 u1 hn => (a2 q u q0 u0 u1 (by omega)).trans (hj.sam n0 n1 u0 u1 (by omega)), fun u u0 u1 => ?_⟩
  rcases Int.lt_or_eq_of_le (show u ≤ n by omega) with e | e
  · exact (hj.sam n0 n1 u0 (by omega) (by omega)).res (a3 u u0 e)
  · rw [e]; exact RES.of (fun o k ho => a1 o k (by omega)) hj.2
theorem SUBd.rb0 {M M1 : Mem} {t p mn : Int} (I : RB M) (h : SUBd M t p mn M1) (t0 : 0 ≤ t) (t1 : t < M 468 17) (p0 : 0 ≤ p) (p1 : p < M 468 9) (m0 : 0 ≤ mn) (m1 : mn ≤ 999) (h40 : M 468 18 < 40) : RB0 M1 := by
  obtain ⟨⟨a1, a2, a3, a4, a5, a6, a7⟩, a8⟩ := h
  have f : ∀ o k, o < 481 → o ≠ 468 → M1 o k = M o k := fun o k b c => a7 o k (by unfold SBf; omega)
  have f2 : ∀ k, k ≠ 0 → k ≠ 18 → M1 468 k = M 468 k := fun k b c => a7 468 k (by unfold SBf; omega)
  obtain ⟨r1, r2, r3, r4, r5⟩ := I.w
  have r6 := I.stp
  unfold RB0
  simp (disch := omega) only [f, f2, a8]
  refine ⟨by omega, r2, fun r x0 x1 => ?_, r4, fun r k x0 x1 k0 k1 => ?_⟩
  · by_cases e : r = M 468 18
    · rw [e, a2, a3, a4, a5]; omega
    · rw [a7 481 r (by unfold SBf; omega), a7 482 r (by unfold SBf; omega), a7 483 r (by unfold SBf; omega), a7 484 r (by unfold SBf; omega)]
      exact r3 r x0 (by omega)
  · by_cases e : r = M 468 18
    · rw [e, a5] at k1
      obtain ⟨b1, b2, b3⟩ := a6 k k0 k1
      rw [e, b1, b2, b3]
      exact r6 k k0 k1
    · rw [a7 484 r (by unfold SBf; omega)] at k1
      have h3 := r3 r x0 (by omega)
      rw [a7 485 _ (by unfold SBf; omega), a7 486 _ (by unfold SBf; omega), a7 487 _ (by unfold SBf; omega)]
      exact r5 r k x0 (by omega) k0 k1
theorem RB0.js {M1 V : Mem} {r n : Int} (I : RB0 M1) (h : JS M1 r n V) : RB0 V := by
  have f := h.1
  obtain ⟨r1, r2, r3, r4, r5⟩ := I
  unfold RB0
  simp (disch := omega) only [f]
  exact ⟨r1, r2, r3, r4, r5⟩
theorem SUBd.rb {M M1 V : Mem} {t p mn : Int} (I : RB M) (h : SUBd M t p mn M1) (hj : JS M1 (M 468 18) (M 476 p) V) (t0 : 0 ≤ t) (t1 : t < M 468 17) (p0 : 0 ≤ p) (p1 : p < M 468 9) (m0 : 0 ≤ mn) (m1 : mn ≤ 999) (h40 : M 468 18 < 40) (hm : M 468 18 = 0 ∨ M 483 (M 468 18 - 1) ≤ mn) : RB V := by
  obtain ⟨b1, b2, b3, b4, b5⟩ := (h.rb0 I t0 t1 p0 p1 m0 m1 h40).js hj
  have i0 := I.rng
  have ip := I.prob p p0 p1
  obtain ⟨⟨a1, a2, a3, a4, a5, a6, a7⟩, a8⟩ := h
  obtain ⟨j1, j2, j3⟩ := hj
  have f : ∀ o k, ¬ SBf (M 468 18) o k → ¬ (488 ≤ o ∧ o ≤ 492) → V o k = M o k := fun o k b c => (j1 o k c).trans (a7 o k b)
  have g : ∀ o k, o < 481 → o ≠ 468 → V o k = M o k := fun o k b c => f o k (by unfold SBf; omega) (by omega)
  have g2 : ∀ k, k ≠ 0 → k ≠ 18 → V 468 k = M 468 k := fun k b c => f 468 k (by unfold SBf; omega) (by omega)
  have g3 : ∀ o k, 492 < o → V o k = M o k := fun o k b => f o k (by unfold SBf; omega) (by omega)
  have g18 : V 468 18 = M 468 18 + 1 := (j1 _ _ (by omega)).trans a8
  obtain ⟨r1, r2, r3, r4, r5, r6, r7, r8, r9, r10, r11⟩ := id I
  refine ⟨b1, b2, b3, ?_, b4, ?_, b5, ?_, ?_, ?_, ?_⟩
  · intro r u x0 x1 u0 u1
    rw [g18] at x1
    have h3 := b3 r x0 (by omega)
    by_cases e : r = M 468 18
    · have e482 : V 482 r = p := by rw [e]; exact (j1 _ _ (by omega)).trans a3
      rw [e482, g 476 p (by omega) (by omega)] at u1
      obtain ⟨d1, d2, d3, d4, d5, d6, d7, d8, d9⟩ := j3 u u0 u1
      have e475 : M1 475 (M1 482 (M 468 18)) = M 475 p := by rw [a3, a7 475 p (by unfold SBf; omega)]
      rw [e475] at d8
      rw [e]
      exact ⟨d9, by omega, by omega, by omega, by omega⟩
    · rw [f 482 r (by unfold SBf; omega) (by omega), g 476 _ (by omega) (by omega)] at u1
      have q := r3 r x0 (by omega)
      have q2 := r2 (M 482 r) (by omega) (by omega)
      obtain ⟨s1, s2, s3, -⟩ := j2 r u x0 u0 (by omega) (by omega)
      rw [s1, s2, s3, a7 488 _ (by unfold SBf; omega), a7 489 _ (by unfold SBf; omega), a7 491 _ (by unfold SBf; omega)]
      exact r4 r u x0 (by omega) u0 u1
  · simp (disch := omega) only [g, g2]; exact r6
  · simp (disch := omega) only [g2, g3]; exact r8
  · intro r q x0 x1 x2
    rw [g18] at x2
    have e483 : ∀ z, 0 ≤ z → z < M 468 18 → V 483 z = M 483 z := fun z z0 z1 => f 483 z (by unfold SBf; omega) (by omega)
    by_cases e : q = M 468 18
    · have e1 : V 483 q = mn := by rw [e]; exact (j1 _ _ (by omega)).trans a4
      by_cases e2 : r = q
      · rw [e2]; exact Int.le_refl _
      · rw [e483 r x0 (by omega), e1]
        rcases hm with w | w
        · omega
        · have := r9 r (M 468 18 - 1) x0 (by omega) (by omega)
          omega
    · rw [e483 r x0 (by omega), e483 q (by omega) (by omega)]
      exact r9 r q x0 x1 (by omega)
  · intro r x0 x1
    rw [g3 496 r (by omega), g18]
    have := r10 r x0 x1
    exact ⟨this.1, fun w => this.2 (by omega)⟩
  · simp (disch := omega) only [g2, g3]; exact r11
theorem SUBd.rbb {M M1 V : Mem} {t p mn c r n : Int} {b : BSt} (h : SUBd M t p mn M1) (hj : JS M1 r n V) (hb : RBb M c b) : RBb V c b := by
  have f : ∀ o k, ¬ SBf (M 468 18) o k → ¬ (488 ≤ o ∧ o ≤ 492) → V o k = M o k := fun o k b c => (hj.1 o k c).trans (h.1.2.2.2.2.2.2 o k b)
  exact hb.cong (f _ _ (by unfold SBf; omega) (by omega)) (f _ _ (by unfold SBf; omega) (by omega)) (f _ _ (by unfold SBf; omega) (by omega)) (fun o k ho => f o k (by unfold SBf; omega) (by omega))
