/-! what does not reach the class's side, or the reference's, leaves what is said of it -/
def LO (M M' : Mem) : Prop := ∀ o k, (o = 0 ∨ (12 < o ∧ o < 41) ∨ (47 < o ∧ o < 468)) → M' o k = M o k
/-- the reference, but for what is typed -/
def HI2 (M M' : Mem) : Prop := ∀ o k, 468 ≤ o → o < 497 → ¬ (o = 468 ∧ (k = 0 ∨ k = 1 ∨ k = 5 ∨ k = 6)) → ¬ (469 ≤ o ∧ o ≤ 473) → M' o k = M o k
def HI (M M' : Mem) : Prop := ∀ o k, 468 ≤ o → o < 497 → ¬ (o = 468 ∧ k = 0) → M' o k = M o k
section J4
variable {M M' : Mem}
theorem LO.trans {M1 M2 M3 : Mem} (h1 : LO M1 M2) (h2 : LO M2 M3) : LO M1 M3 := fun o k h => (h2 o k h).trans (h1 o k h)
theorem HI.trans {M1 M2 M3 : Mem} (h1 : HI M1 M2) (h2 : HI M2 M3) : HI M1 M3 := fun o k a b d => (h2 o k a b d).trans (h1 o k a b d)
theorem CR.lo (C : CR M) (e : LO M M') : CR M' := by
  obtain ⟨c1, c2, c3⟩ := C
  refine ⟨?_, fun r r0 r1 => ?_, fun p p0 p1 => ?_⟩
  · rw [e 0 10 (by omega), e 0 11 (by omega), e 0 12 (by omega), e 0 13 (by omega)]; exact c1
  · rw [e 0 12 (by omega)] at r1
    rw [e 0 10 (by omega), e 0 11 (by omega), e _ 4 (by omega), e _ 5 (by omega), e _ 6 (by omega), e _ 7 (by omega), e _ 8 (by omega), e _ 9 (by omega)]
    exact c2 r r0 r1
  · rw [e 0 10 (by omega)] at p1
    rw [e _ 1 (by omega), e _ 2 (by omega), e _ 3 (by omega)]
    exact c3 p p0 p1
theorem SI.lo {x : Int} (h : SI M x) (f : LO M M') : SI M' x := by
  have hs : ∀ j, 0 ≤ j → j < 240 → sl M' j = sl M j := fun j j0 j1 => f _ _ (by omega)
  obtain ⟨h1, h2, h3, h4, h5⟩ := h
  unfold SI
  simp (disch := omega) only [f _ _]
  refine ⟨fun s s0 s1 => ?_, h2, h3, h4, fun j j0 j1 => ?_⟩
  · rw [h1 s s0 s1]; exact cnt_congr (by omega) (fun j j0 j1 => by rw [hs j j0 j1])
  · rw [hs j j0 j1]; exact h5 j j0 j1
theorem DK.lo {r t : Int} (h : DK M r t) (e : LO M M') (r0 : 0 ≤ r) (r1 : r < 40) (p0 : 0 ≤ M (8 * r + 148) 5) (p1 : M (8 * r + 148) 5 < 5) (t0 : 0 ≤ t) (t1 : t < 6) : DK M' r t := by
  have e5 : M' (8 * r + 148) 5 = M (8 * r + 148) 5 := e _ _ (by omega)
  unfold DK at h ⊢
  rw [e5, e (20 * M (8 * r + 148) 5 + 48) 2 (by omega), JA_cong (M := M) (fun a k ha => e a k (by omega)), e (8 * r + 153) t (by omega), e (8 * r + 154) t (by omega), e (8 * r + 155) t (by omega)]
  obtain ⟨a1, a2, a3, a4, a5, a6, a7, a8, a9⟩ := h
  refine ⟨a1.cong (fun a k ha => e a k (by omega)), a2.cong (fun a k ha => e a k (by omega)), ?_, a4, a5, a6, a7, ?_, a9⟩
  · unfold JEa XPa at a3 ⊢
    simp (disch := omega) only [e _ _]
    exact a3
  · unfold CT at a8 ⊢
    simp (disch := omega) only [e _ _]
    exact a8
theorem DKs.lo (h : DKs M) (C : CR M) (e : LO M M') : DKs M' := by
  intro r t r0 r1 t0 t1
  rw [e 0 12 (by omega)] at r1
  have c0 := C.1
  have c1 := C.run r r0 r1
  have c2 := C.prob (M (8 * r + 148) 5) (by omega) (by omega)
  rw [e (8 * r + 148) 5 (by omega), e _ 3 (by omega)] at t1
  exact (h r t r0 r1 t0 t1).lo e r0 (by omega) (by omega) (by omega) t0 (by omega)
theorem BOK.lo {o b : Int} (h : BOK M o b) (C : CR M) (ho : o = 27 ∨ o = 34) (e : LO M M') : BOK M' o b := by
  have c0 := C.1
  exact h.cong (by omega) (fun a j ha => e a j (by omega)) ⟨e _ _ (by omega), e _ _ (by omega), fun r k r0 r1 k0 k1 => e _ _ (by omega)⟩
theorem RB.hi (I : RB M) (e : HI M M') : RB M' := by
  unfold RB at I ⊢
  simp (disch := omega) only [e _ _]
  exact I
theorem RES.fine {r t : Int} (h : RES M r t M) (hp : M' 482 r = M 482 r) (h5 : M' 475 (M 482 r) = M 475 (M 482 r)) (e : ∀ o k, (477 ≤ o ∧ o ≤ 480) ∨ (484 ≤ o ∧ o ≤ 491) → M' o k = M o k) : RES M' r t M' := by
  unfold RES JE XPo JR at h ⊢
  rw [hp, h5]
  simp (disch := omega) only [e]
  exact h
theorem TEQ.fine {p t : Int} (h : TEQ M p t) (e1 : ∀ o k, 20 * p + 3 * t + 50 ≤ o → o ≤ 20 * p + 3 * t + 52 → M' o k = M o k) (e2 : ∀ o k, 477 ≤ o → o ≤ 480 → M' o k = M o k) : TEQ M' p t := by
  unfold TEQ at h ⊢
  simp (disch := omega) only [e1 _ _, e2 _ _]
  exact h
/-- a run's cells stay, but perhaps that it is pending -/
theorem REQ.fine {r : Int} (h : REQ M r) (a : ∀ o k, 8 * r + 148 ≤ o → o ≤ 8 * r + 155 → k ≠ 7 ∨ 8 * r + 149 ≤ o → M' o k = M o k) (b : M' (20 * M 482 r + 48) 3 = M (20 * M 482 r + 48) 3) (hp : M' 482 r = M 482 r) (c : M' 481 r = M 481 r ∧ M' 483 r = M 483 r ∧ M' 475 (M 482 r) = M 475 (M 482 r) ∧ M' 476 (M 482 r) = M 476 (M 482 r)) (e : ∀ o k, (477 ≤ o ∧ o ≤ 480) ∨ (484 ≤ o ∧ o ≤ 491) → M' o k = M o k) (hq : M' (8 * r + 148) 7 ≠ 0 ↔ Pnd M' r) : REQ M' r := by
  obtain ⟨⟨a1, a2, a3⟩, a4, ⟨a5, a6⟩, a7, a8⟩ := h
  obtain ⟨c1, c2, c3, c4⟩ := c
  refine ⟨⟨?_, ?_, ?_⟩, hq, ⟨?_, fun k k0 k1 => ?_⟩, ?_, fun t t0 t1 => ?_⟩
  · rw [a _ _ (by omega) (by omega) (by omega), c1]; exact a1
  · rw [a _ _ (by omega) (by omega) (by omega), hp]; exact a2
  · rw [a _ _ (by omega) (by omega) (by omega), c2]; exact a3
  · rw [a _ _ (by omega) (by omega) (by omega), e _ _ (by omega)]; exact a5
  · rw [e _ _ (by omega)] at k1
    rw [a (8 * r + 150) k (by omega) (by omega) (by omega), a (8 * r + 151) k (by omega) (by omega) (by omega), a (8 * r + 152) k (by omega) (by omega) (by omega), e 485 _ (by omega), e 486 _ (by omega), e 487 _ (by omega)]
    exact a6 k k0 k1
  · rw [a2] at a7
    unfold JNc at a7 ⊢
    rw [a _ 5 (by omega) (by omega) (by omega), a2, b, a _ 8 (by omega) (by omega) (by omega), a _ 9 (by omega) (by omega) (by omega), show (fun q => M' (8 * r + 153) q) = (fun q => M (8 * r + 153) q) from funext fun q => a _ _ (by omega) (by omega) (by omega)]
    refine ⟨a7.1, a7.2.trans ?_⟩
    rw [show (fun q => M' (8 * r + 153) q ≠ 111) = (fun q => M (8 * r + 153) q ≠ 111) from funext fun q => by rw [a _ _ (by omega) (by omega) (by omega)]]
  · rw [hp, c4] at t1
    exact (a8 t t0 t1).fine hp c3 e
theorem Sol.fine {t p : Int} (e18 : M' 468 18 = M 468 18) (e : ∀ r, 0 ≤ r → r < M 468 18 → M' 481 r = M 481 r ∧ M' 482 r = M 482 r ∧ (Acc M' r ↔ Acc M r)) : Sol M' t p ↔ Sol M t p := by
  unfold Sol
  rw [e18]
  constructor
  · rintro ⟨r, r0, r1, h1, h2, h3⟩
    obtain ⟨x1, x2, x3⟩ := e r r0 r1
    exact ⟨r, r0, r1, by rw [← x1]; exact h1, by rw [← x2]; exact h2, x3.mp h3⟩
  · rintro ⟨r, r0, r1, h1, h2, h3⟩
    obtain ⟨x1, x2, x3⟩ := e r r0 r1
    exact ⟨r, r0, r1, by rw [x1]; exact h1, by rw [x2]; exact h2, x3.mpr h3⟩
theorem Acc.fine {r : Int} (hp : M' 482 r = M 482 r) (h6 : M' 476 (M 482 r) = M 476 (M 482 r)) (e : ∀ k, M' 488 k = M 488 k) : Acc M' r ↔ Acc M r := by
  unfold Acc
  rw [hp, h6]
  simp only [e]
theorem QL.fine {c : Int} {q : List Int} (h : QL M c q) (e24 : M' 24 c = M 24 c) (e : ∀ k, M' (c + 20) k = M (c + 20) k) : QL M' c q := ⟨e24.trans h.1, fun k x hk => (e _).trans (h.2 k x hk)⟩
theorem QB.fine {c : Int} {q : List Int} (G : QB M c q) (e17 : M' 468 17 = M 468 17) (e9 : M' 468 9 = M 468 9) (e : ∀ o k, o = 474 ∨ o = 493 ∨ o = 494 → M' o k = M o k) : QB M' c q := G.cong e17 e9 (fun p => e _ _ (by omega)) (fun p => e _ _ (by omega)) (fun p => e _ _ (by omega))
theorem BLC.fine {n m c : Int} {q : List Int} (h : BLC n M c q) (nm : n ≤ m) (e17 : M' 468 17 = M 468 17) (e9 : M' 468 9 = M 468 9) (e : ∀ o k, o = 474 ∨ o = 493 ∨ o = 494 ∨ o = 495 → M' o k = M o k) (f : ∀ o k, 18 ≤ o → o ≤ 26 → M' o k = M o k) (c0 : 0 ≤ c) (c1 : c < 4) : BLC m M' c q := by
  obtain ⟨a1, a2, a3, a4, a5, a6, a7, a8, a9⟩ := h
  refine ⟨a1.fine (f _ _ (by omega) (by omega)) (fun k => f _ _ (by omega) (by omega)), a2.fine e17 e9 (fun o k h => e o k (by omega)), a3, ?_, ?_, ?_, ?_, ?_, ?_⟩
  · rw [e _ _ (by omega), f _ _ (by omega) (by omega)]; exact a4
  · rw [f _ _ (by omega) (by omega)]; exact a5
  · rw [f _ _ (by omega) (by omega)]; exact a6
  · rw [f 25 _ (by omega) (by omega), f 26 _ (by omega) (by omega)]; omega
  · rw [f 26 _ (by omega) (by omega), a8]
    refine cnt_congr (by omega) (fun x x0 x1 => ?_)
    unfold COL
    rw [f 18 _ (by omega) (by omega), e 474 _ (by omega)]
  · rw [f _ _ (by omega) (by omega)]; exact a9
/-- balloons stay as they are -/
theorem BALL.fine {n m : Int} {q : Int → List Int} (h : BALL n q M) (nm : n ≤ m) (e17 : M' 468 17 = M 468 17) (e9 : M' 468 9 = M 468 9) (e34 : M' 468 34 = M 468 34) (e35 : M' 468 35 = M 468 35) (e : ∀ o k, o = 474 ∨ o = 493 ∨ o = 494 ∨ o = 495 → M' o k = M o k) (f : ∀ o k, 17 ≤ o → o ≤ 26 → M' o k = M o k) (hs : ∀ t p, Sol M' t p ↔ Sol M t p) : BALL m q M' := by
  obtain ⟨h1, h2, h3, h4, h5, h6⟩ := h
  refine ⟨fun x x0 x1 => ?_, fun x x0 x1 w => ?_, fun x x0 x1 => ?_, fun t p t0 t1 p0 p1 => ?_, ?_, fun c c0 c1 => (h6 c c0 c1).fine nm e17 e9 e (fun o k a b => f o k (by omega) b) c0 c1⟩
  · rw [f _ _ (by omega) (by omega)]; exact h1 x x0 x1
  · rw [e17, e9] at w; rw [f _ _ (by omega) (by omega)]; exact h2 x x0 x1 w
  · rw [e17] at x1; rw [f 18 _ (by omega) (by omega), e 493 _ (by omega)]; exact h3 x x0 x1
  · rw [e17] at t1; rw [e9] at p1; rw [f _ _ (by omega) (by omega), hs]; exact h4 t p t0 t1 p0 p1
  · rw [f 17 5 (by omega) (by omega), e34, e35]; exact ⟨h5.1, h5.2.1, by omega, by omega⟩
theorem Pnd.fine {r : Int} (e36 : M' 468 36 = M 468 36) (e83 : M' 483 r = M 483 r) (e96 : M' 496 r = M 496 r) : Pnd M' r ↔ Pnd M r := by unfold Pnd; rw [e36, e83, e96]
/-- nothing is touched that matters, but perhaps what is typed -/
theorem JJn.of {n m : Int} {q : Int → List Int} (h : JJn n q M) (nm : n ≤ m) (e : LO M M') (f : HI2 M M') (I' : RB M') (T' : TY M') : JJn m q M' := by
  have i0 := h.rb.rng
  have c0 := h.cns.1
  have p8 := fun p (p0 : 0 ≤ p) (p1 : p < 5) => h.prb p p0 p1
  have g : ∀ o k, 474 ≤ o → o < 497 → M' o k = M o k := fun o k a b => f o k (by omega) b (by omega) (by omega)
  have hA : ∀ r, Acc M' r ↔ Acc M r := fun r => Acc.fine (g _ _ (by omega) (by omega)) (g _ _ (by omega) (by omega)) (fun k => g _ _ (by omega) (by omega))
  have f18 : M' 468 18 = M 468 18 := f _ _ (by omega) (by omega) (by omega) (by omega)
  have f17 : M' 468 17 = M 468 17 := f _ _ (by omega) (by omega) (by omega) (by omega)
  have f9 : M' 468 9 = M 468 9 := f _ _ (by omega) (by omega) (by omega) (by omega)
  have f34 : M' 468 34 = M 468 34 := f _ _ (by omega) (by omega) (by omega) (by omega)
  have f35 : M' 468 35 = M 468 35 := f _ _ (by omega) (by omega) (by omega) (by omega)
  have f36 : M' 468 36 = M 468 36 := f _ _ (by omega) (by omega) (by omega) (by omega)
  refine ⟨⟨I', h.cr.lo e, h.si.lo e, h.dk.lo h.cr e⟩, ⟨h.b0.lo h.cr (by omega) e, h.b1.lo h.cr (by omega) e⟩, ⟨?_, T', fun p p0 p1 => ?_, fun p t p0 p1 t0 t1 => ?_, fun r r0 r1 => ?_, fun r t r0 r1 t0 t1 w => ?_⟩, ?_⟩
  · unfold CNS
    simp (disch := omega) only [e _ _, g _ _, f18, f17, f9, f36]
    exact h.cns
  · simp (disch := omega) only [e _ _, g _ _, f9]
    exact p8 p p0 p1
  · rw [f9] at p1
    rw [g _ _ (by omega) (by omega)] at t1
    have h2 := h.rb.prob p p0 p1
    exact (h.tst p t p0 p1 t0 t1).fine (fun o k a b => e _ _ (by omega)) (fun o k a b => g _ _ (by omega) (by omega))
  · rw [f18] at r1
    have x := h.run r0 r1
    have y := h.rns r r0 r1
    refine y.fine (fun o k a b _ => e _ _ (by omega)) (e _ _ (by omega)) (g _ _ (by omega) (by omega)) ⟨g _ _ (by omega) (by omega), g _ _ (by omega) (by omega), g _ _ (by omega) (by omega), g _ _ (by omega) (by omega)⟩ (fun o k a => g _ _ (by omega) (by omega)) ?_
    rw [e _ _ (by omega), Pnd.fine f36 (g _ _ (by omega) (by omega)) (g _ _ (by omega) (by omega))]
    exact y.2.1
  · rw [f18, g 482 _ (by omega) (by omega), g 476 _ (by omega) (by omega)] at w
    rw [e _ _ (by omega)]
    exact h.slt r t r0 r1 t0 t1 w
  · exact h.bal.fine nm f17 f9 f34 f35 (fun o k a => g _ _ (by omega) (by omega)) (fun o k a b => e _ _ (by omega)) (fun t p => Sol.fine f18 (fun r r0 r1 => ⟨g _ _ (by omega) (by omega), g _ _ (by omega) (by omega), hA r⟩))
theorem JJn.eqv {n m : Int} {q : Int → List Int} (h : JJn n q M) (nm : n ≤ m) (e : LO M M') (e0 : ∀ o k, 1 ≤ o → o ≤ 7 → M' o k = M o k) (f : HI M M') : JJn m q M' := by
  refine h.of nm e (fun o k a b d _ => f o k a b (by omega)) (h.rb.hi f) ?_
  unfold TY
  simp (disch := omega) only [e0 _ _, f _ _]
  exact h.ty
theorem JJn.code {n : Int} {q : Int → List Int} (h : JJn n q M) (z : Int) : JJn (n + 1) q (up M 468 0 z) := h.eqv (by omega) (fun o k a => up_o (by omega)) (fun o k a b => up_o (by omega)) (fun o k a b d => up_n (by omega))
end J4
