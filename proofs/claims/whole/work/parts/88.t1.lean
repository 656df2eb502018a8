/-! a problem more, a team more; what is pending changes -/
theorem SI.fin {M M' : Mem} {x : Int} (h : SI M x) (f : ∀ a k, 13 ≤ a → a ≤ 16 → M' a k = M a k) (g : ∀ r k, 0 ≤ r → r < 40 → M' (8 * r + 155) k = M (8 * r + 155) k) : SI M' x := by
  have hs : ∀ j, 0 ≤ j → j < 240 → sl M' j = sl M j := fun j j0 j1 => by
    unfold sl
    rw [show 155 + 8 * (j / 6) = 8 * (j / 6) + 155 by omega]
    exact g _ _ (by omega) (by omega)
  obtain ⟨h1, h2, h3, h4, h5⟩ := h
  unfold SI
  simp (disch := omega) only [f _ _]
  refine ⟨fun s s0 s1 => ?_, h2, h3, h4, fun j j0 j1 => ?_⟩
  · rw [h1 s s0 s1]; exact cnt_congr (by omega) (fun j j0 j1 => by rw [hs j j0 j1])
  · rw [hs j j0 j1]; exact h5 j j0 j1
theorem DK.fin2 {M M' : Mem} {q u p : Int} (h : DK M q u) (hp : M (8 * q + 148) 5 = p)
    (e : ∀ o k, (14 ≤ o ∧ o ≤ 15) ∨ (20 * p + 3 * u + 50 ≤ o ∧ o ≤ 20 * p + 3 * u + 52) ∨ (o = 20 * p + 48 ∧ k = 2) ∨ (o = 8 * q + 148 ∧ k = 5) ∨ (8 * q + 149 ≤ o ∧ o ≤ 8 * q + 152) ∨ (8 * q + 153 ≤ o ∧ o ≤ 8 * q + 155 ∧ k = u) → M' o k = M o k) : DK M' q u := by
  have e5 : M' (8 * q + 148) 5 = p := (e _ _ (by omega)).trans hp
  unfold DK at h ⊢
  rw [hp] at h
  rw [e5, e (20 * p + 48) 2 (by omega), JA_cong (M := M) (fun a k ha => e a k (by omega)), e (8 * q + 153) u (by omega), e (8 * q + 154) u (by omega), e (8 * q + 155) u (by omega)]
  obtain ⟨a1, a2, a3, a4, a5, a6, a7, a8, a9⟩ := h
  refine ⟨a1.cong (fun a k ha => e a k (by omega)), a2.cong (fun a k ha => e a k (by omega)), ?_, a4, a5, a6, a7, ⟨by rw [e 15 _ (by omega)]; exact a8.1, fun k k0 k1 => by rw [e 14 _ (by omega)]; exact a8.2 k k0 k1⟩, a9⟩
  unfold JEa XPa at a3 ⊢
  have x3 := e (20 * p + 3 * u + 50) 3 (by omega)
  have x4 : ∀ k, M' (20 * p + 3 * u + 50 + 2) k = M (20 * p + 3 * u + 50 + 2) k := fun k => e _ k (by omega)
  simp only [x3, x4]
  exact a3
section T1
variable {M M' : Mem} {n : Int} {q : Int → List Int}
theorem JJn.addp (h : JJn n q M) {c l : Int} (hc : 0 ≤ c ∧ c ≤ 3) (hl : 1 ≤ l ∧ l ≤ 400) (h5 : M 468 9 < 5)
    (e : ∀ o k, (o < 10 ∨ (12 < o ∧ o < 41) ∨ (47 < o ∧ o < 468)) → ¬ (o = 0 ∧ k = 10) → ¬ (o = 20 * M 468 9 + 48 ∧ (k = 1 ∨ k = 2)) → M' o k = M o k)
    (e1 : M' 0 10 = M 468 9 + 1) (e2 : M' (20 * M 468 9 + 48) 1 = c) (e3 : M' (20 * M 468 9 + 48) 2 = l)
    (f : ∀ o k, 468 ≤ o → o < 497 → ¬ (o = 468 ∧ (k = 0 ∨ k = 9)) → ¬ ((o = 474 ∨ o = 475) ∧ k = M 468 9) → M' o k = M o k)
    (f1 : M' 468 9 = M 468 9 + 1) (f2 : M' 474 (M 468 9) = c) (f3 : M' 475 (M 468 9) = l) : JJn (n + 1) q M' := by
  have i0 := h.rb.rng
  obtain ⟨⟨c1, c2, c3⟩, c4⟩ := h.cns
  have hz := (h.prb (M 468 9) (by omega) h5).2.2 (Int.le_refl _)
  have hp3 := (h.prb (M 468 9) (by omega) h5).1
  have g : ∀ o k, 476 ≤ o → o < 497 → M' o k = M o k := fun o k a b => f o k (by omega) b (by omega) (by omega)
  have f18 : M' 468 18 = M 468 18 := f _ _ (by omega) (by omega) (by omega) (by omega)
  have f17 : M' 468 17 = M 468 17 := f _ _ (by omega) (by omega) (by omega) (by omega)
  have f34 : M' 468 34 = M 468 34 := f _ _ (by omega) (by omega) (by omega) (by omega)
  have f35 : M' 468 35 = M 468 35 := f _ _ (by omega) (by omega) (by omega) (by omega)
  have f36 : M' 468 36 = M 468 36 := f _ _ (by omega) (by omega) (by omega) (by omega)
  have hR : ∀ r, 0 ≤ r → r < M 468 18 → 0 ≤ M 482 r ∧ M 482 r < M 468 9 := fun r r0 r1 => (h.run r0 r1).2.1
  have hA : ∀ r, Acc M' r ↔ Acc M r := fun r => Acc.fine (g _ _ (by omega) (by omega)) (g _ _ (by omega) (by omega)) (fun k => g _ _ (by omega) (by omega))
  have hSol : ∀ t p, Sol M' t p ↔ Sol M t p := fun t p => Sol.fine f18 (fun r r0 r1 => ⟨g _ _ (by omega) (by omega), g _ _ (by omega) (by omega), hA r⟩)
  have hRB : RB M' := by
    obtain ⟨r1, r2, r3, r4, r5, r6, r7, r8, r9, r10, r11⟩ := id h.rb
    unfold RB
    simp (disch := omega) only [f _ _]
    rw [f1]
    refine ⟨by omega, fun p p0 p1 => ?_, fun r r0 r1 => by have := r3 r r0 r1; omega, r4, fun p t p0 p1 t0 t1 => ?_, r6, r7, r8, r9, r10, r11⟩
    · by_cases w : p = M 468 9
      · rw [w, f2, f3]; omega
      · rw [f 474 p (by omega) (by omega) (by omega) (by omega), f 475 p (by omega) (by omega) (by omega) (by omega)]
        exact r2 p p0 (by omega)
    · by_cases w : p = M 468 9
      · rw [w, hz] at t1; omega
      · exact r5 p t p0 (by omega) t0 t1
  have hCR : CR M' := by
    obtain ⟨d1, d2, d3⟩ := h.cr
    refine ⟨?_, fun r r0 r1 => ?_, fun p p0 p1 => ?_⟩
    · rw [e1, e 0 11 (by omega) (by omega) (by omega), e 0 12 (by omega) (by omega) (by omega), e 0 13 (by omega) (by omega) (by omega)]; omega
    · rw [e 0 12 (by omega) (by omega) (by omega)] at r1
      rw [e1, e 0 11 (by omega) (by omega) (by omega), e _ 4 (by omega) (by omega) (by omega), e _ 5 (by omega) (by omega) (by omega), e _ 6 (by omega) (by omega) (by omega), e _ 7 (by omega) (by omega) (by omega), e _ 8 (by omega) (by omega) (by omega), e _ 9 (by omega) (by omega) (by omega)]
      have := d2 r r0 r1
      omega
    · rw [e1] at p1
      by_cases w : p = M 468 9
      · rw [w, e2, e3, e _ 3 (by omega) (by omega) (by omega), hp3]; omega
      · rw [e _ 1 (by omega) (by omega) (by omega), e _ 2 (by omega) (by omega) (by omega), e _ 3 (by omega) (by omega) (by omega)]
        exact d3 p p0 (by omega)
  have hDK : DKs M' := by
    intro r t r0 r1 t0 t1
    rw [e 0 12 (by omega) (by omega) (by omega)] at r1
    have x := h.run r0 (by omega)
    rw [e (8 * r + 148) 5 (by omega) (by omega) (by omega), e _ 3 (by omega) (by omega) (by omega)] at t1
    rw [x.2.2.2.2] at t1
    exact (h.dk r t r0 r1 t0 (by rw [x.2.2.2.2]; exact t1)).fine x.2.2.2.2 (fun o k ho => e o k (by omega) (by omega) (by omega))
  have hB : ∀ o b, o = 27 ∨ o = 34 → BOK M o b → BOK M' o b := fun o b ho hb => hb.cong (by omega) (fun a j ha => e a j (by omega) (by omega) (by omega)) ⟨e _ _ (by omega) (by omega) (by omega), e _ _ (by omega) (by omega) (by omega), fun r k r0 r1 k0 k1 => e _ _ (by omega) (by omega) (by omega)⟩
  refine ⟨⟨hRB, hCR, h.si.fin (fun a k a0 a1 => e a k (by omega) (by omega) (by omega)) (fun r k r0 r1 => e _ k (by omega) (by omega) (by omega)), hDK⟩, ⟨hB _ _ (Or.inl rfl) h.b0, hB _ _ (Or.inr rfl) h.b1⟩, ⟨?_, ?_, fun p p0 p1 => ?_, fun p t p0 p1 t0 t1 => ?_, fun r r0 r1 => ?_, fun r t r0 r1 t0 t1 w => ?_⟩, ?_⟩
  · refine ⟨⟨by rw [e1, f1], by rw [e 0 11 (by omega) (by omega) (by omega), f17]; exact c2, by rw [e 0 12 (by omega) (by omega) (by omega), f18]; exact c3⟩, ?_⟩
    rw [e 0 13 (by omega) (by omega) (by omega), f36]
    simp (disch := omega) only [g _ _]
    exact c4
  · unfold TY
    simp (disch := omega) only [e _ _, f _ _]
    exact h.ty
  · by_cases w : p = M 468 9
    · rw [w, f1, f2, f3, e2, e3, e _ 3 (by omega) (by omega) (by omega), g _ _ (by omega) (by omega)]
      exact ⟨hp3, fun _ => ⟨rfl, rfl⟩, fun x => by omega⟩
    · rw [f1, e _ 1 (by omega) (by omega) (by omega), e _ 2 (by omega) (by omega) (by omega), e _ 3 (by omega) (by omega) (by omega), g 476 _ (by omega) (by omega), f 474 _ (by omega) (by omega) (by omega) (by omega), f 475 _ (by omega) (by omega) (by omega) (by omega)]
      have x := h.prb p p0 p1
      exact ⟨x.1, fun y => x.2.1 (by omega), fun y => x.2.2 (by omega)⟩
  · rw [f1] at p1
    rw [g _ _ (by omega) (by omega)] at t1
    by_cases w : p = M 468 9
    · rw [w, hz] at t1; omega
    · have h2 := h.rb.prob p p0 (by omega)
      exact (h.tst p t p0 (by omega) t0 t1).fine (fun o k a b => e _ _ (by omega) (by omega) (by omega)) (fun o k a b => g _ _ (by omega) (by omega))
  · rw [f18] at r1
    have x := hR r r0 r1
    have y := h.rns r r0 r1
    refine y.fine (fun o k a b _ => e _ _ (by omega) (by omega) (by omega)) (e _ _ (by omega) (by omega) (by omega)) (g _ _ (by omega) (by omega)) ⟨g _ _ (by omega) (by omega), g _ _ (by omega) (by omega), f _ _ (by omega) (by omega) (by omega) (by omega), g _ _ (by omega) (by omega)⟩ (fun o k a => g _ _ (by omega) (by omega)) ?_
    rw [e _ _ (by omega) (by omega) (by omega), Pnd.fine f36 (g _ _ (by omega) (by omega)) (g _ _ (by omega) (by omega))]
    exact y.2.1
  · rw [f18, g 482 _ (by omega) (by omega), g 476 _ (by omega) (by omega)] at w
    rw [e _ _ (by omega) (by omega) (by omega)]
    exact h.slt r t r0 r1 t0 t1 w
  · obtain ⟨b1, b2, b3, b4, b5, b6⟩ := h.bal
    have k18 : ∀ x, M' 18 x = M 18 x := fun x => e _ _ (by omega) (by omega) (by omega)
    refine ⟨fun x x0 x1 => by rw [k18]; exact b1 x x0 x1, fun x x0 x1 w => ?_, fun x x0 x1 => ?_, fun t p t0 t1 p0 p1 => ?_, ?_, fun cc y0 y1 => ?_⟩
    · rw [f17, f1] at w
      rw [k18]
      exact b2 x x0 x1 (by omega)
    · rw [f17] at x1
      rw [k18, g _ _ (by omega) (by omega)]
      exact b3 x x0 x1
    · rw [f17] at t1
      rw [f1] at p1
      rw [k18, hSol]
      by_cases w : p = M 468 9
      · have a := b2 (5 * t + p) (by omega) (by omega) (Or.inr (by omega))
        constructor
        · intro z; exact absurd a z
        · rintro ⟨r, r0, r1, d1, d2, d3⟩
          have := hR r r0 r1
          omega
      · exact b4 t p t0 t1 p0 (by omega)
    · rw [e 17 5 (by omega) (by omega) (by omega), f34, f35]
      exact ⟨b5.1, b5.2.1, by omega, by omega⟩
    · obtain ⟨a1, a2, a3, a4, a5, a6, a7, a8, a9⟩ := b6 cc y0 y1
      have k25 : ∀ o k, 19 ≤ o → o ≤ 26 → M' o k = M o k := fun o k a b => e _ _ (by omega) (by omega) (by omega)
      refine ⟨a1.fine (k25 _ _ (by omega) (by omega)) (fun k => k25 _ _ (by omega) (by omega)), ⟨fun x => ?_, ?_⟩, a3, ?_, ?_, ?_, ?_, ?_, ?_⟩
      · rw [a2.1 x, f17]
        unfold WQ
        rw [f1, g 493 _ (by omega) (by omega)]
        constructor
        · rintro ⟨z0, z1, z2, z3, z4⟩
          exact ⟨z0, z1, z2, by omega, by rw [f 474 _ (by omega) (by omega) (by omega) (by omega)]; exact z4⟩
        · rintro ⟨z0, z1, z2, z3, z4⟩
          have z5 : x % 5 < M 468 9 := by
            rcases Int.lt_or_le (x % 5) (M 468 9) with y | y
            · exact y
            · have := b2 x z0 (by omega) (Or.inr y)
              have := b3 x z0 z1
              omega
          rw [f 474 _ (by omega) (by omega) (by omega) (by omega)] at z4
          exact ⟨z0, z1, z2, z5, z4⟩
      · simp only [g 494 _ (by omega) (by omega)]
        exact a2.2
      · rw [g _ _ (by omega) (by omega), k25 _ _ (by omega) (by omega)]; exact a4
      · rw [k25 _ _ (by omega) (by omega)]; exact a5
      · rw [k25 _ _ (by omega) (by omega)]; exact a6
      · rw [k25 25 _ (by omega) (by omega), k25 26 _ (by omega) (by omega)]; omega
      · rw [k25 26 _ (by omega) (by omega), a8]
        refine cnt_congr (by omega) (fun x x0 x1 => ?_)
        unfold COL
        rw [k18]
        constructor
        · rintro ⟨z0, z1⟩
          refine ⟨z0, ?_⟩
          rw [f 474 _ (by omega) (by omega) (by omega) (fun y => by have := b2 x x0 x1 (Or.inr (by omega)); omega)]
          exact z1
        · rintro ⟨z0, z1⟩
          refine ⟨z0, ?_⟩
          rw [f 474 _ (by omega) (by omega) (by omega) (fun y => by have := b2 x x0 x1 (Or.inr (by omega)); omega)] at z1
          exact z1
      · rw [k25 _ _ (by omega) (by omega)]; exact a9
theorem JJn.addt (h : JJn n q M) (h8 : M 468 17 < 8)
    (e : ∀ o k, (o < 10 ∨ (12 < o ∧ o < 27) ∨ (47 < o ∧ o < 468)) → ¬ (o = 0 ∧ k = 11) → M' o k = M o k)
    (e1 : M' 0 11 = M 468 17 + 1) (hb0 : BOK M' 27 0) (hb1 : BOK M' 34 1)
    (f : ∀ o k, 468 ≤ o → o < 497 → ¬ (o = 468 ∧ (k = 0 ∨ k = 17)) → ¬ (o = 493 ∧ 5 * M 468 17 ≤ k ∧ k < 5 * M 468 17 + 5) → M' o k = M o k)
    (f1 : M' 468 17 = M 468 17 + 1) (f2 : ∀ k, 5 * M 468 17 ≤ k → k < 5 * M 468 17 + 5 → M' 493 k = 45) : JJn (n + 1) q M' := by
  have i0 := h.rb.rng
  obtain ⟨⟨c1, c2, c3⟩, c4⟩ := h.cns
  have g : ∀ o k, 469 ≤ o → o < 497 → o ≠ 493 → M' o k = M o k := fun o k a b d => f o k (by omega) b (by omega) (by omega)
  have f18 : M' 468 18 = M 468 18 := f _ _ (by omega) (by omega) (by omega) (by omega)
  have f9 : M' 468 9 = M 468 9 := f _ _ (by omega) (by omega) (by omega) (by omega)
  have f34 : M' 468 34 = M 468 34 := f _ _ (by omega) (by omega) (by omega) (by omega)
  have f35 : M' 468 35 = M 468 35 := f _ _ (by omega) (by omega) (by omega) (by omega)
  have f36 : M' 468 36 = M 468 36 := f _ _ (by omega) (by omega) (by omega) (by omega)
  have hR : ∀ r, 0 ≤ r → r < M 468 18 → 0 ≤ M 482 r ∧ M 482 r < M 468 9 := fun r r0 r1 => (h.run r0 r1).2.1
  have hT : ∀ r, 0 ≤ r → r < M 468 18 → 0 ≤ M 481 r ∧ M 481 r < M 468 17 := fun r r0 r1 => (h.run r0 r1).1
  have hA : ∀ r, Acc M' r ↔ Acc M r := fun r => Acc.fine (g _ _ (by omega) (by omega) (by omega)) (g _ _ (by omega) (by omega) (by omega)) (fun k => g _ _ (by omega) (by omega) (by omega))
  have hSol : ∀ t p, Sol M' t p ↔ Sol M t p := fun t p => Sol.fine f18 (fun r r0 r1 => ⟨g _ _ (by omega) (by omega) (by omega), g _ _ (by omega) (by omega) (by omega), hA r⟩)
  have hRB : RB M' := by
    obtain ⟨r1, r2, r3, r4, r5, r6, r7, r8, r9, r10, r11⟩ := id h.rb
    unfold RB
    simp (disch := omega) only [f _ _]
    rw [f1]
    refine ⟨by omega, r2, fun r r0 r1 => by have := r3 r r0 r1; omega, r4, r5, r6, r7, fun t p t0 t1 p0 p1 => ?_, r9, r10, ⟨by omega, by omega, fun t p t0 t1 p0 p1 w => ?_⟩⟩
    · by_cases w : t = M 468 17
      · exact Or.inl (f2 _ (by omega) (by omega))
      · rw [f 493 _ (by omega) (by omega) (by omega) (by omega)]
        exact r8 t p t0 (by omega) p0 p1
    · by_cases w2 : t = M 468 17
      · rw [f2 _ (by omega) (by omega)] at w; omega
      · rw [f 493 _ (by omega) (by omega) (by omega) (by omega)] at w
        exact r11.2.2 t p t0 (by omega) p0 p1 w
  have hCR : CR M' := by
    obtain ⟨d1, d2, d3⟩ := h.cr
    refine ⟨?_, fun r r0 r1 => ?_, fun p p0 p1 => ?_⟩
    · rw [e1, e 0 10 (by omega) (by omega), e 0 12 (by omega) (by omega), e 0 13 (by omega) (by omega)]; omega
    · rw [e 0 12 (by omega) (by omega)] at r1
      rw [e1, e 0 10 (by omega) (by omega), e _ 4 (by omega) (by omega), e _ 5 (by omega) (by omega), e _ 6 (by omega) (by omega), e _ 7 (by omega) (by omega), e _ 8 (by omega) (by omega), e _ 9 (by omega) (by omega)]
      have := d2 r r0 r1
      omega
    · rw [e 0 10 (by omega) (by omega)] at p1
      rw [e _ 1 (by omega) (by omega), e _ 2 (by omega) (by omega), e _ 3 (by omega) (by omega)]
      exact d3 p p0 p1
  have hDK : DKs M' := by
    intro r t r0 r1 t0 t1
    rw [e 0 12 (by omega) (by omega)] at r1
    have x := h.run r0 (by omega)
    rw [e (8 * r + 148) 5 (by omega) (by omega), e _ 3 (by omega) (by omega)] at t1
    rw [x.2.2.2.2] at t1
    exact (h.dk r t r0 r1 t0 (by rw [x.2.2.2.2]; exact t1)).fine x.2.2.2.2 (fun o k ho => e o k (by omega) (by omega))
  refine ⟨⟨hRB, hCR, h.si.fin (fun a k a0 a1 => e a k (by omega) (by omega)) (fun r k r0 r1 => e _ k (by omega) (by omega)), hDK⟩, ⟨hb0, hb1⟩, ⟨?_, ?_, fun p p0 p1 => ?_, fun p t p0 p1 t0 t1 => ?_, fun r r0 r1 => ?_, fun r t r0 r1 t0 t1 w => ?_⟩, ?_⟩
  · refine ⟨⟨by rw [e 0 10 (by omega) (by omega), f9]; exact c1, by rw [e1, f1], by rw [e 0 12 (by omega) (by omega), f18]; exact c3⟩, ?_⟩
    rw [e 0 13 (by omega) (by omega), f36]
    simp (disch := omega) only [g _ _]
    exact c4
  · unfold TY
    simp (disch := omega) only [e _ _, f _ _]
    exact h.ty
  · rw [f9, e _ 1 (by omega) (by omega), e _ 2 (by omega) (by omega), e _ 3 (by omega) (by omega), g 476 _ (by omega) (by omega) (by omega), g 474 _ (by omega) (by omega) (by omega), g 475 _ (by omega) (by omega) (by omega)]
    exact h.prb p p0 p1
  · rw [f9] at p1
    rw [g _ _ (by omega) (by omega) (by omega)] at t1
    have h2 := h.rb.prob p p0 (by omega)
    exact (h.tst p t p0 (by omega) t0 t1).fine (fun o k a b => e _ _ (by omega) (by omega)) (fun o k a b => g _ _ (by omega) (by omega) (by omega))
  · rw [f18] at r1
    have x := hR r r0 r1
    have y := h.rns r r0 r1
    refine y.fine (fun o k a b _ => e _ _ (by omega) (by omega)) (e _ _ (by omega) (by omega)) (g _ _ (by omega) (by omega) (by omega)) ⟨g _ _ (by omega) (by omega) (by omega), g _ _ (by omega) (by omega) (by omega), g _ _ (by omega) (by omega) (by omega), g _ _ (by omega) (by omega) (by omega)⟩ (fun o k a => g _ _ (by omega) (by omega) (by omega)) ?_
    rw [e _ _ (by omega) (by omega), Pnd.fine f36 (g _ _ (by omega) (by omega) (by omega)) (g _ _ (by omega) (by omega) (by omega))]
    exact y.2.1
  · rw [f18, g 482 _ (by omega) (by omega) (by omega), g 476 _ (by omega) (by omega) (by omega)] at w
    rw [e _ _ (by omega) (by omega)]
    exact h.slt r t r0 r1 t0 t1 w
  · obtain ⟨b1, b2, b3, b4, b5, b6⟩ := h.bal
    have k18 : ∀ x, M' 18 x = M 18 x := fun x => e _ _ (by omega) (by omega)
    refine ⟨fun x x0 x1 => by rw [k18]; exact b1 x x0 x1, fun x x0 x1 w => ?_, fun x x0 x1 => ?_, fun t p t0 t1 p0 p1 => ?_, ?_, fun cc y0 y1 => ?_⟩
    · rw [f9, f1] at w
      rw [k18]
      exact b2 x x0 x1 (by omega)
    · rw [f1] at x1
      rw [k18]
      by_cases w : 5 * M 468 17 ≤ x
      · rw [f2 x w (by omega), b2 x x0 (by omega) (Or.inl w)]
      · rw [f 493 _ (by omega) (by omega) (by omega) (by omega)]
        exact b3 x x0 (by omega)
    · rw [f1] at t1
      rw [f9] at p1
      rw [k18, hSol]
      by_cases w : t = M 468 17
      · have a := b2 (5 * t + p) (by omega) (by omega) (Or.inl (by omega))
        constructor
        · intro z; exact absurd a z
        · rintro ⟨r, r0, r1, d1, d2, d3⟩
          have := hT r r0 r1
          omega
      · exact b4 t p t0 (by omega) p0 p1
    · rw [e 17 5 (by omega) (by omega), f34, f35]
      exact ⟨b5.1, b5.2.1, by omega, by omega⟩
    · obtain ⟨a1, a2, a3, a4, a5, a6, a7, a8, a9⟩ := b6 cc y0 y1
      have k25 : ∀ o k, 19 ≤ o → o ≤ 26 → M' o k = M o k := fun o k a b => e _ _ (by omega) (by omega)
      refine ⟨a1.fine (k25 _ _ (by omega) (by omega)) (fun k => k25 _ _ (by omega) (by omega)), ⟨fun x => ?_, ?_⟩, a3, ?_, ?_, ?_, ?_, ?_, ?_⟩
      · rw [a2.1 x, f1]
        unfold WQ
        rw [f9, g 474 _ (by omega) (by omega) (by omega)]
        constructor
        · rintro ⟨z0, z1, z2, z3, z4⟩
          exact ⟨z0, by omega, by rw [f 493 _ (by omega) (by omega) (by omega) (by omega)]; exact z2, z3, z4⟩
        · rintro ⟨z0, z1, z2, z3, z4⟩
          by_cases w : 5 * M 468 17 ≤ x
          · rw [f2 x w (by omega)] at z2; omega
          · rw [f 493 _ (by omega) (by omega) (by omega) (by omega)] at z2
            exact ⟨z0, by omega, z2, z3, z4⟩
      · simp only [g 494 _ (by omega) (by omega) (by omega)]
        exact a2.2
      · rw [g _ _ (by omega) (by omega) (by omega), k25 _ _ (by omega) (by omega)]; exact a4
      · rw [k25 _ _ (by omega) (by omega)]; exact a5
      · rw [k25 _ _ (by omega) (by omega)]; exact a6
      · rw [k25 25 _ (by omega) (by omega), k25 26 _ (by omega) (by omega)]; omega
      · rw [k25 26 _ (by omega) (by omega), a8]
        refine cnt_congr (by omega) (fun x x0 x1 => ?_)
        unfold COL
        rw [k18, g 474 _ (by omega) (by omega) (by omega)]
      · rw [k25 _ _ (by omega) (by omega)]; exact a9
/-- what is pending changes, on both sides alike -/
theorem JJn.pdg (h : JJn n q M)
    (e : ∀ o k, (o < 10 ∨ (12 < o ∧ o < 27) ∨ (47 < o ∧ o < 468)) → ¬ (o = 0 ∧ k = 13) → (∀ r, 0 ≤ r → r < M 468 18 → ¬ (o = 8 * r + 148 ∧ k = 7)) → M' o k = M o k)
    (hb0 : BOK M' 27 0) (hb1 : BOK M' 34 1) (hC : CR M') (hI : RB M')
    (f : ∀ o k, 468 ≤ o → o < 497 → ¬ (o = 468 ∧ (k = 0 ∨ k = 36)) → o ≠ 496 → M' o k = M o k)
    (hz : (M' 0 13 = 1000 ∧ M' 468 36 = -1 ∧ ∀ r, 0 ≤ r → r < 40 → M' 496 r = 0) ∨ (0 ≤ M' 468 36 ∧ M' 0 13 = M' 468 36))
    (hp : ∀ r, 0 ≤ r → r < M 468 18 → (M' (8 * r + 148) 7 ≠ 0 ↔ Pnd M' r)) : JJn (n + 1) q M' := by
  have i0 := h.rb.rng
  obtain ⟨⟨c1, c2, c3⟩, c4⟩ := h.cns
  have g : ∀ o k, 469 ≤ o → o < 496 → M' o k = M o k := fun o k a b => f o k (by omega) (by omega) (by omega) (by omega)
  have f18 : M' 468 18 = M 468 18 := f _ _ (by omega) (by omega) (by omega) (by omega)
  have f17 : M' 468 17 = M 468 17 := f _ _ (by omega) (by omega) (by omega) (by omega)
  have f9 : M' 468 9 = M 468 9 := f _ _ (by omega) (by omega) (by omega) (by omega)
  have f34 : M' 468 34 = M 468 34 := f _ _ (by omega) (by omega) (by omega) (by omega)
  have f35 : M' 468 35 = M 468 35 := f _ _ (by omega) (by omega) (by omega) (by omega)
  have el : ∀ o k, (o < 10 ∨ (12 < o ∧ o < 27) ∨ (47 < o ∧ o < 148)) → ¬ (o = 0 ∧ k = 13) → M' o k = M o k := fun o k a b => e o k (by omega) b (fun r r0 r1 w => by omega)
  have er : ∀ r o k, 0 ≤ r → r < 40 → 8 * r + 148 ≤ o → o ≤ 8 * r + 155 → k ≠ 7 ∨ 8 * r + 149 ≤ o → M' o k = M o k := fun r o k r0 r1 a b d => e o k (by omega) (by omega) (fun x x0 x1 w => by omega)
  have hR : ∀ r, 0 ≤ r → r < M 468 18 → 0 ≤ M 482 r ∧ M 482 r < M 468 9 := fun r r0 r1 => (h.run r0 r1).2.1
  have hA : ∀ r, Acc M' r ↔ Acc M r := fun r => Acc.fine (g _ _ (by omega) (by omega)) (g _ _ (by omega) (by omega)) (fun k => g _ _ (by omega) (by omega))
  have hSol : ∀ t p, Sol M' t p ↔ Sol M t p := fun t p => Sol.fine f18 (fun r r0 r1 => ⟨g _ _ (by omega) (by omega), g _ _ (by omega) (by omega), hA r⟩)
  have hDK : DKs M' := by
    intro r t r0 r1 t0 t1
    rw [el 0 12 (by omega) (by omega)] at r1
    have x := h.run r0 (by omega)
    rw [er r (8 * r + 148) 5 r0 (by omega) (by omega) (by omega) (by omega), x.2.2.2.2] at t1
    rw [el _ 3 (by omega) (by omega)] at t1
    have y := h.run r0 (by omega)
    exact (h.dk r t r0 r1 t0 (by rw [x.2.2.2.2]; exact t1)).fin2 x.2.2.2.2 (fun o k ho => by
      by_cases w : o < 148
      · exact el o k (by omega) (by omega)
      · exact er r o k r0 (by omega) (by omega) (by omega) (by omega))
  refine ⟨⟨hI, hC, h.si.fin (fun a k a0 a1 => el a k (by omega) (by omega)) (fun r k r0 r1 => er r _ k r0 r1 (by omega) (by omega) (by omega)), hDK⟩, ⟨hb0, hb1⟩, ⟨⟨⟨?_, ?_, ?_⟩, hz⟩, ?_, fun p p0 p1 => ?_, fun p t p0 p1 t0 t1 => ?_, fun r r0 r1 => ?_, fun r t r0 r1 t0 t1 w => ?_⟩, ?_⟩
  · rw [el 0 10 (by omega) (by omega), f9]; exact c1
  · rw [el 0 11 (by omega) (by omega), f17]; exact c2
  · rw [el 0 12 (by omega) (by omega), f18]; exact c3
  · unfold TY
    simp (disch := omega) only [el _ _, f _ _]
    exact h.ty
  · rw [f9, el _ 1 (by omega) (by omega), el _ 2 (by omega) (by omega), el _ 3 (by omega) (by omega), g 476 _ (by omega) (by omega), g 474 _ (by omega) (by omega), g 475 _ (by omega) (by omega)]
    exact h.prb p p0 p1
  · rw [f9] at p1
    rw [g _ _ (by omega) (by omega)] at t1
    have h2 := h.rb.prob p p0 (by omega)
    exact (h.tst p t p0 (by omega) t0 t1).fine (fun o k a b => el _ _ (by omega) (by omega)) (fun o k a b => g _ _ (by omega) (by omega))
  · rw [f18] at r1
    have x := hR r r0 r1
    have y := h.rns r r0 r1
    exact y.fine (fun o k a b d => er r _ _ r0 (by omega) a b d) (el _ _ (by omega) (by omega)) (g _ _ (by omega) (by omega)) ⟨g _ _ (by omega) (by omega), g _ _ (by omega) (by omega), g _ _ (by omega) (by omega), g _ _ (by omega) (by omega)⟩ (fun o k a => g _ _ (by omega) (by omega)) (hp r r0 r1)
  · rw [f18, g 482 _ (by omega) (by omega), g 476 _ (by omega) (by omega)] at w
    rw [er r _ _ r0 (by omega) (by omega) (by omega) (by omega)]
    exact h.slt r t r0 r1 t0 t1 w
  · exact h.bal.fine (by omega) f17 f9 f34 f35 (fun o k a => g _ _ (by omega) (by omega)) (fun o k a b => el _ _ (by omega) (by omega)) hSol
end T1
