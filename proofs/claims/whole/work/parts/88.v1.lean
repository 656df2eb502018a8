/-! what judging anew, and taking a run, stand on -/
theorem DKs.fin {M M' : Mem} (h : DKs M) (C : CR M) (e : ∀ o k, o = 0 ∨ (14 ≤ o ∧ o ≤ 15) ∨ (48 ≤ o ∧ o < 468) → M' o k = M o k) : DKs M' := by
  intro r t r0 r1 t0 t1
  rw [e 0 12 (by omega)] at r1
  have c0 := C.1
  have c1 := C.run r r0 r1
  have c2 := C.prob (M (8 * r + 148) 5) (by omega) (by omega)
  rw [e (8 * r + 148) 5 (by omega), e _ 3 (by omega)] at t1
  exact (h r t r0 r1 t0 t1).fin2 rfl (fun o k ho => e o k (by omega))
/-- all but the balloons, the store, the boards -/
def COR (M : Mem) : Prop := RB M ∧ CR M ∧ DKs M ∧ CNS M ∧ PRB M ∧ TST M ∧ RNS M
section COR
variable {M : Mem}
theorem COR.rb (h : COR M) : RB M := h.1
theorem COR.cr (h : COR M) : CR M := h.2.1
theorem COR.dk (h : COR M) : DKs M := h.2.2.1
theorem COR.cns (h : COR M) : CNS M := h.2.2.2.1
theorem COR.prb (h : COR M) : PRB M := h.2.2.2.2.1
theorem COR.tst (h : COR M) : TST M := h.2.2.2.2.2.1
theorem COR.rns (h : COR M) : RNS M := h.2.2.2.2.2.2
theorem JJn.cor {n : Int} {q : Int → List Int} (h : JJn n q M) : COR M := ⟨h.rb, h.cr, h.dk, h.cns, h.prb, h.tst, h.rns⟩
theorem COR.run (h : COR M) {r : Int} (r0 : 0 ≤ r) (r1 : r < M 468 18) : (0 ≤ M 481 r ∧ M 481 r < M 468 17) ∧ (0 ≤ M 482 r ∧ M 482 r < M 468 9) ∧ (0 ≤ M 476 (M 482 r) ∧ M 476 (M 482 r) ≤ 6) ∧ M (20 * M 482 r + 48) 3 = M 476 (M 482 r) ∧ M (8 * r + 148) 5 = M 482 r := by
  have i0 := h.rb.rng
  have i1 := h.rb.run r r0 r1
  have i2 := h.rb.prob (M 482 r) (by omega) (by omega)
  have i3 := h.prb (M 482 r) (by omega) (by omega)
  exact ⟨⟨by omega, by omega⟩, ⟨by omega, by omega⟩, ⟨by omega, by omega⟩, i3.1, (h.rns r r0 r1).1.2.1⟩
theorem COR.sme (h : COR M) {r t : Int} (r0 : 0 ≤ r) (r1 : r < M 468 18) (t0 : 0 ≤ t) (t1 : t < M 476 (M 482 r)) : SME M r t := by
  obtain ⟨a1, a2, a3, a4, a5⟩ := h.run r0 r1
  have i0 := h.rb.rng
  have c := h.cns.1
  have hq := h.rns r r0 r1
  have e := h.prb (M 482 r) a2.1 (by omega)
  exact sme_of rfl a5 (hq.pg h.rb r0 r1) ((h.tst _ t a2.1 a2.2 t0 t1).nu h.rb a2.1 a2.2 t0 t1) (e.2.1 a2.2).2 hq.2.2.1.1 hq.2.2.1.2 (h.tst _ t a2.1 a2.2 t0 t1) (h.dk r t r0 (by omega) t0 (by rw [a5]; omega)) (hq.2.2.2.2 t t0 t1)
theorem COR.ver (h : COR M) {r : Int} (r0 : 0 ≤ r) (r1 : r < M 468 18) : M (8 * r + 148) 8 = vz M r ∧ M (8 * r + 148) 9 = fz M r := by
  obtain ⟨a1, a2, a3, a4, a5⟩ := h.run r0 r1
  have hq := (h.rns r r0 r1).2.2.2.1
  unfold JNc at hq
  rw [a5, a4] at hq
  have e : ∀ u, 0 ≤ u → u < M 476 (M 482 r) → M (8 * r + 153) u = M 488 (6 * r + u) := fun u u0 u1 => (h.sme r0 r1 u0 u1).1
  refine ⟨?_, ?_⟩
  · rw [hq.1, vz_eq]
    exact VZ.congr a3.1 e
  · rw [hq.2]
    exact lst_congr a3.1 (fun z z0 z1 => by rw [e z z0 z1])
theorem COR.acc (h : COR M) {r : Int} (r0 : 0 ≤ r) (r1 : r < M 468 18) : M (8 * r + 148) 8 = 97 ↔ Acc M r := by
  rw [(h.ver r0 r1).1]
  exact vz_acc h.rb r0 r1
theorem COR.fst (h : COR M) {b t p m : Int} (m0 : 0 ≤ m) (m1 : m ≤ M 468 18) : gF (aT M) (aB M) (aV M b) (aA M) t p m = fstR M b t p m :=
  lst_congr m0 (fun r r0 r1 => by
    obtain ⟨⟨x1, x2, x3⟩, x4, -⟩ := h.rns r r0 (by omega)
    show (M (8 * r + 148) 4 = t ∧ M (8 * r + 148) 5 = p ∧ ¬ (b ≠ 0 ∧ M (8 * r + 148) 7 ≠ 0) ∧ M (8 * r + 148) 8 = 97) ↔ (M 481 r = t ∧ M 482 r = p ∧ ¬ (b ≠ 0 ∧ Pnd M r) ∧ Acc M r)
    rw [x1, x2, x4, h.acc r0 (by omega)])
theorem COR.s29 (h : COR M) {o t p : Int} (hB : BOK M o 0) (t0 : 0 ≤ t) (t1 : t < M 0 11) (p0 : 0 ≤ p) (p1 : p < 5) : M (o + 2) (5 * t + p) ≠ -1 ↔ Sol M t p := by
  have i0 := h.rb.rng
  have c := h.cns.1
  have e := ((hB.2.1 (by omega) t t0 (by omega)).1 p p0 p1).1
  rw [c.2.2, h.fst (by omega) (Int.le_refl _)] at e
  rw [e]
  rcases lst_is (fun r => M 481 r = t ∧ M 482 r = p ∧ Vis M 0 r ∧ Acc M r) (n := M 468 18) (by omega) with ⟨a, b⟩ | ⟨a, b, d, d2⟩
  · have a' : fstR M 0 t p (M 468 18) = -1 := a
    rw [if_pos a']
    constructor
    · intro w; exact absurd rfl w
    · rintro ⟨r, r0, r1, x1, x2, x3⟩
      exact absurd ⟨x1, x2, fun w => w.1 rfl, x3⟩ (b r r0 r1)
  · change 0 ≤ fstR M 0 t p (M 468 18) at a
    change fstR M 0 t p (M 468 18) < M 468 18 at b
    rw [if_neg (by omega)]
    constructor
    · intro _; exact ⟨_, a, b, d.1, d.2.1, d.2.2.2⟩
    · intro _
      have x := h.rb.run _ a b
      have y := (h.rns _ a b).1.2.2
      show M (8 * fstR M 0 t p (M 468 18) + 148) 6 ≠ -1
      omega
end COR
section V1
variable {M M' : Mem}
/-- the balloons have moved -/
theorem JJn.bl {n : Int} {q q' : Int → List Int} (h : JJn n q M) (e : ∀ o k, (o < 10 ∨ (12 < o ∧ o < 17) ∨ (26 < o ∧ o < 41) ∨ (47 < o ∧ o < 468)) → M' o k = M o k) (f : ∀ o k, 468 ≤ o → o < 497 → ¬ (o = 468 ∧ (k = 0 ∨ k = 34 ∨ k = 35)) → ¬ (493 ≤ o ∧ o ≤ 495) → M' o k = M o k) (I' : RB M') (B' : BALL (n + 1) q' M') : JJn (n + 1) q' M' := by
  have i0 := h.rb.rng
  have c0 := h.cns.1
  have hB : ∀ o b, o = 27 ∨ o = 34 → BOK M o b → BOK M' o b := fun o b ho hb => hb.cong (by omega) (fun a j ha => e a j (by omega)) ⟨e _ _ (by omega), e _ _ (by omega), fun r k r0 r1 k0 k1 => e _ _ (by omega)⟩
  have g : ∀ o k, 469 ≤ o → o < 493 → M' o k = M o k := fun o k a b => f o k (by omega) (by omega) (by omega) (by omega)
  refine ⟨⟨I', h.cr.fin (fun a k ha => e a k (by omega)), h.si.fin (fun a k a0 a1 => e a k (by omega)) (fun r k r0 r1 => e _ k (by omega)), h.dk.fin h.cr (fun o k ho => e o k (by omega))⟩, ⟨hB _ _ (Or.inl rfl) h.b0, hB _ _ (Or.inr rfl) h.b1⟩, ⟨?_, ?_, fun p p0 p1 => ?_, fun p t p0 p1 t0 t1 => ?_, fun r r0 r1 => ?_, fun r t r0 r1 t0 t1 w => ?_⟩, B'⟩
  · unfold CNS
    simp (disch := omega) only [e _ _, f _ _]
    exact h.cns
  · unfold TY
    simp (disch := omega) only [e _ _, f _ _]
    exact h.ty
  · simp (disch := omega) only [e _ _, f _ _]
    exact h.prb p p0 p1
  · rw [f 468 9 (by omega) (by omega) (by omega) (by omega)] at p1
    rw [g _ _ (by omega) (by omega)] at t1
    have h2 := h.rb.prob p p0 p1
    exact (h.tst p t p0 p1 t0 t1).fine (fun o k a b => e _ _ (by omega)) (fun o k a b => g _ _ (by omega) (by omega))
  · rw [f 468 18 (by omega) (by omega) (by omega) (by omega)] at r1
    have x := h.run r0 r1
    have y := h.rns r r0 r1
    refine y.fine (fun o k a b _ => e _ _ (by omega)) (e _ _ (by omega)) (g _ _ (by omega) (by omega)) ⟨g _ _ (by omega) (by omega), g _ _ (by omega) (by omega), g _ _ (by omega) (by omega), g _ _ (by omega) (by omega)⟩ (fun o k a => g _ _ (by omega) (by omega)) ?_
    rw [e _ _ (by omega), Pnd.fine (f 468 36 (by omega) (by omega) (by omega) (by omega)) (g _ _ (by omega) (by omega)) (f 496 _ (by omega) (by omega) (by omega) (by omega))]
    exact y.2.1
  · rw [f 468 18 (by omega) (by omega) (by omega) (by omega), g 482 _ (by omega) (by omega), g 476 _ (by omega) (by omega)] at w
    rw [e _ _ (by omega)]
    exact h.slt r t r0 r1 t0 t1 w
theorem JR.cg {r t : Int} (hp : M' 482 r = M 482 r) (hN : 0 ≤ M 478 (6 * M 482 r + t)) (hl : 0 ≤ M 484 r) (h4 : M' 484 r = M 484 r) (hL : ∀ k, 0 ≤ k → k < M 484 r → (M' 485 (20 * r + k) = M 485 (20 * r + k) ∧ M' 486 (20 * r + k) = M 486 (20 * r + k) ∧ M' 487 (20 * r + k) = M 487 (20 * r + k)) ∧ SOK (M 485 (20 * r + k)) (M 486 (20 * r + k)) (M 487 (20 * r + k)))
    (h5 : M' 475 (M 482 r) = M 475 (M 482 r)) (h8 : M' 478 (6 * M 482 r + t) = M 478 (6 * M 482 r + t)) (h7 : ∀ k, 0 ≤ k → k < M 478 (6 * M 482 r + t) → M' 477 (24 * M 482 r + 4 * t + k) = M 477 (24 * M 482 r + 4 * t + k)) : JR M' r t = JR M r t := by
  unfold JR
  rw [hp, h4, h5, h8]
  refine (prun_congr (fun k k0 k1 => ?_) (fun k k0 k1 => (h7 k k0 k1).symm) _ _ (Int.le_refl 0) (by show (0 : Int) ≤ _; omega) (Int.le_refl 0) (by show (0 : Int) ≤ _; omega)).symm
  obtain ⟨⟨d1, d2, d3⟩, d4⟩ := hL k k0 k1
  unfold SOK at d4
  exact ⟨d1.symm, d2.symm, d3.symm, fun w => by omega⟩
theorem RES.fin2 {r t : Int} (h : RES M r t M) (hJ : JR M' r t = JR M r t) (hp : M' 482 r = M 482 r) (h5 : M' 475 (M 482 r) = M 475 (M 482 r)) (h8 : M' 480 (6 * M 482 r + t) = M 480 (6 * M 482 r + t)) (h9 : ∀ k, 0 ≤ k → k < 6 → M' 479 (36 * M 482 r + 6 * t + k) = M 479 (36 * M 482 r + 6 * t + k)) (hS : SAM M M' r t) : RES M' r t M' := by
  obtain ⟨r1, r2, r3, r4, r5, r6, r7, r8, r9⟩ := h
  obtain ⟨s1, s2, s3, s4⟩ := hS
  unfold RES
  rw [hJ, hp, h5, s1, s2, s3]
  refine ⟨r1, fun k k0 k1 => by rw [s4 k k0 (by omega)]; exact r2 k k0 k1, r3, ?_, r5, r6, r7, r8, r9⟩
  have hX : XPo M' (M 482 r) t (JR M r t) ↔ XPo M (M 482 r) t (JR M r t) := by
    unfold XPo
    rw [h8]
    constructor
    · rintro ⟨a, b⟩
      exact ⟨a, fun k k0 k1 => by rw [← h9 k k0 (by omega)]; exact b k k0 k1⟩
    · rintro ⟨a, b⟩
      exact ⟨a, fun k k0 k1 => by rw [h9 k k0 (by omega)]; exact b k k0 k1⟩
  unfold JE
  rw [hX]
  exact r4
theorem TEQ.fin2 {p t : Int} (h : TEQ M p t) (e1 : ∀ o k, 20 * p + 3 * t + 50 ≤ o → o ≤ 20 * p + 3 * t + 52 → M' o k = M o k) (h8 : M' 478 (6 * p + t) = M 478 (6 * p + t)) (h0 : M' 480 (6 * p + t) = M 480 (6 * p + t)) (h7 : ∀ k, 0 ≤ k → k < M 478 (6 * p + t) → M' 477 (24 * p + 4 * t + k) = M 477 (24 * p + 4 * t + k)) (h9 : ∀ k, 0 ≤ k → k < M 480 (6 * p + t) → M' 479 (36 * p + 6 * t + k) = M 479 (36 * p + 6 * t + k)) : TEQ M' p t := by
  obtain ⟨a1, a2, a3, a4⟩ := h
  refine ⟨?_, ?_, fun k k0 k1 => ?_, fun k k0 k1 => ?_⟩
  · rw [e1 _ _ (by omega) (by omega), h8]; exact a1
  · rw [e1 _ _ (by omega) (by omega), h0]; exact a2
  · rw [h8] at k1
    rw [e1 _ _ (by omega) (by omega), h7 k k0 k1]; exact a3 k k0 k1
  · rw [h0] at k1
    rw [e1 _ _ (by omega) (by omega), h9 k k0 k1]; exact a4 k k0 k1
end V1
section FO
variable {sol : Int → Prop} {p k : Int} {b : BSt}
theorem fTk_o {y : Int} (h : QS k b) (p0 : 0 ≤ p) (p1 : p < 5) (hy : y % 5 ≠ p) : ∀ m : Nat, (fTk sol p b m).1 y = 45 ↔ b.1 y = 45 := by
  intro m
  induction m with
  | zero => exact Iff.rfl
  | succ m ih =>
    by_cases e : sol m
    · have := fTk_t (sol := sol) (p := p) (b := b) (n := m) (by omega) e
      rw [show ((m : Int) + 1).toNat = m + 1 by omega, show ((m : Int)).toNat = m by omega] at this
      rw [this]; exact ih
    · have := fTk_f (sol := sol) (p := p) (b := b) (n := m) (by omega) e
      rw [show ((m : Int) + 1).toNat = m + 1 by omega, show ((m : Int)).toNat = m by omega] at this
      rw [this, TKo_45 (h.fTk (sol := sol) (p := p) m).2.2, ih]
      constructor
      · rintro (w | w)
        · exfalso; omega
        · exact w
      · intro w; exact Or.inr w
theorem fSn_o {y : Int} (h : QS k b) (p0 : 0 ≤ p) (p1 : p < 5) (hy : y % 5 ≠ p) : ∀ m : Nat, m ≤ 8 → ((fSn sol p b m).1 y = 45 ↔ b.1 y = 45) := by
  intro m
  induction m with
  | zero => intro _; exact Iff.rfl
  | succ m ih =>
    intro hm
    have i := ih (by omega)
    by_cases e : sol m ∧ (fSn sol p b m).1 (5 * m + p) = 45
    · have := fSn_t (sol := sol) (p := p) (b := b) (n := m) (by omega) e.1 e.2
      rw [show ((m : Int) + 1).toNat = m + 1 by omega, show ((m : Int)).toNat = m by omega] at this
      rw [this, SNo_45 (h.fSn (sol := sol) p0 p1 m (by omega)).1 (by omega) (by omega) e.2, i]
      constructor
      · rintro ⟨-, w⟩; exact w
      · intro w; exact ⟨by omega, w⟩
    · have := fSn_f (sol := sol) (p := p) (b := b) (n := m) (by omega) e
      rw [show ((m : Int) + 1).toNat = m + 1 by omega, show ((m : Int)).toNat = m by omega] at this
      rw [this]; exact i
theorem fFo_o {y T : Int} (h : QS k b) (p0 : 0 ≤ p) (p1 : p < 5) (T0 : 0 ≤ T) (T1 : T ≤ 8) (hy : y % 5 ≠ p) : (fFo sol p T b).1 y = 45 ↔ b.1 y = 45 := by
  have q1 := h.fTk (sol := sol) (p := p) T.toNat
  unfold fFo
  rw [fSn_o (k := k + T.toNat + 40) q1.sv p0 p1 hy T.toNat (by omega), SVo_45 q1.1, fTk_o h p0 p1 hy]
end FO
