set_option maxHeartbeats 1600000 in
/-- a run is taken: both sides stay alike -/
theorem JJn.sub {n : Int} {q : Int → List Int} {M : Mem} (h : JJn n q M) (hn : 0 ≤ n ∧ n ≤ 512) {t p mn v : Int} {Mc M2c M3 M1 M2r M9 : Mem} {b' : BSt} (t0 : 0 ≤ t) (t1 : t < M 468 17) (p0 : 0 ≤ p) (p1 : p < M 468 9) (m0 : 0 ≤ mn) (m1 : mn ≤ 999) (h40 : M 468 18 < 40)
    (sb : SBM M t p mn M2c) (jb : JBA M2c (M 468 18) (M 476 p) M3) (jC : CR M3) (jD : DKs M3) (jF : ∀ o k, ¬ (17 ≤ o ∧ o ≤ 40) → Mc o k = M3 o k) (jB0 : BOK Mc 27 0) (jB1 : BOK Mc 34 1) (jRA : RAb Mc (M 474 p) (fFo (fun u => Mc 29 (5 * u + p) ≠ -1) p (M 468 17) (bM M q (M 474 p)))) (jfr : ∀ o k, 17 ≤ o → o ≤ 26 → o ≠ 18 → o ≠ M 474 p + 20 → ¬ (k = M 474 p ∧ 24 ≤ o) → ¬ (o = 17 ∧ k = 5) → Mc o k = M o k)
    (hh : HI M (up Mc 497 0 v)) (su : SUBd (up Mc 497 0 v) t p mn M1) (js : JS M1 (M 468 18) (M 476 p) M2r) (rI2 : RB M2r) (bmv : BMV M2r (M 474 p) b' 1 M9)
    (hb : ((bM M q (M 474 p)).1 (5 * t + p) = 45 ∧ Sol M2r t p ∧ b' = SNo (5 * t + p) (bM M q (M 474 p))) ∨ (¬ ((bM M q (M 474 p)).1 (5 * t + p) = 45 ∧ Sol M2r t p) ∧ b' = bM M q (M 474 p))) : M9 468 0 = 0 ∧ ∃ q2, JJn (n + 1) q2 M9 := by
  have i0 := h.rb.rng
  obtain ⟨⟨k1, k2, k3⟩, k4⟩ := h.cns
  have ip := h.rb.prob p p0 p1
  have hcol := (h.prb p p0 (by omega)).2.1 p1
  obtain ⟨c1, c2, c3, c4, c5, c6, c7, c8⟩ := id sb
  rw [k3] at c1 c2 c3 c4 c5 c6 c7 c8
  obtain ⟨j1, j2, j3, j4, j5, j6⟩ := id jb
  obtain ⟨⟨s0, s1, s2, s3, s4, s5, s6⟩, s7⟩ := id su
  have w18 : (up Mc 497 0 v) 468 18 = M 468 18 := hh _ _ (by omega) (by omega) (by omega)
  have w1 : (up Mc 497 0 v) 468 1 = M 468 1 := hh _ _ (by omega) (by omega) (by omega)
  rw [w18] at s1 s2 s3 s4 s5 s6 s7
  rw [w1] at s4 s5
  obtain ⟨js1, js2, js3⟩ := id js
  obtain ⟨bF, bB, bS, b34, b34'⟩ := id bmv
  obtain ⟨x1, x2, x3, x4⟩ := h.bqn hn.1 (c := M 474 p) (by omega) (by omega)
  -- the class's side
  have mA : ∀ o k, o < 468 → M9 o k = Mc o k := fun o k ho => by
    rw [bF o k (by omega) (by omega) (by omega), js1 o k (by omega), s6 o k (by unfold SBf; omega), up_o (by omega)]
  have mB : ∀ o k, o < 468 → ¬ (17 ≤ o ∧ o ≤ 40) → M9 o k = M3 o k := fun o k ho h2 => (mA o k ho).trans (jF o k h2)
  have mC : ∀ o k, o < 468 → ¬ (10 ≤ o ∧ o ≤ 40) → ¬ (8 * M 468 18 + 153 ≤ o ∧ o ≤ 8 * M 468 18 + 155 ∧ 0 ≤ k ∧ k < M 476 p) → ¬ (o = 8 * M 468 18 + 148 ∧ (k = 8 ∨ k = 9)) → M9 o k = M2c o k := fun o k ho h2 h3 h4 => (mB o k ho (by omega)).trans (j1 o k (by omega) h3 h4)
  have mD : ∀ o k, o < 468 → ¬ (10 ≤ o ∧ o ≤ 40) → ¬ (8 * M 468 18 + 148 ≤ o ∧ o ≤ 8 * M 468 18 + 152) → ¬ (8 * M 468 18 + 153 ≤ o ∧ o ≤ 8 * M 468 18 + 155 ∧ 0 ≤ k ∧ k < M 476 p) → ¬ (o = 0 ∧ k = 12) → M9 o k = M o k := fun o k ho h2 h3 h4 h5 => (mC o k ho h2 h4 (by omega)).trans (c1 o k h3 h5)
  -- the reference's side
  have nA : ∀ o k, 468 ≤ o → o < 497 → ¬ (493 ≤ o ∧ o ≤ 495) → ¬ (o = 468 ∧ (k = 34 ∨ k = 35)) → M9 o k = M2r o k := fun o k a b d e => bF o k (by omega) (by omega) (by omega)
  have nB : ∀ o k, 468 ≤ o → o < 497 → ¬ (493 ≤ o ∧ o ≤ 495) → ¬ (o = 468 ∧ (k = 34 ∨ k = 35)) → ¬ (488 ≤ o ∧ o ≤ 492) → M9 o k = M1 o k := fun o k a b d e g => (nA o k a b d e).trans (js1 o k g)
  have lM : ∀ o k, 468 ≤ o → o < 497 → ¬ SBf (M 468 18) o k → M1 o k = M o k := fun o k a b d => by rw [s6 o k d, hh o k a b (by unfold SBf at d; omega)]
  have nC : ∀ o k, 468 ≤ o → o < 497 → ¬ (493 ≤ o ∧ o ≤ 495) → ¬ (o = 468 ∧ (k = 34 ∨ k = 35)) → ¬ (488 ≤ o ∧ o ≤ 492) → ¬ SBf (M 468 18) o k → M9 o k = M o k := fun o k a b d e g l => (nB o k a b d e g).trans (lM o k a b l)
  have n18 : M9 468 18 = M 468 18 + 1 := (nB _ _ (by omega) (by omega) (by omega) (by omega) (by omega)).trans s7
  have n17 : M9 468 17 = M 468 17 := nC _ _ (by omega) (by omega) (by omega) (by omega) (by omega) (by unfold SBf; omega)
  have n9 : M9 468 9 = M 468 9 := nC _ _ (by omega) (by omega) (by omega) (by omega) (by omega) (by unfold SBf; omega)
  have n36 : M9 468 36 = M 468 36 := nC _ _ (by omega) (by omega) (by omega) (by omega) (by omega) (by unfold SBf; omega)
  have nt : ∀ o k, 474 ≤ o → o ≤ 480 ∨ o = 496 → M9 o k = M o k := fun o k a b => nC _ _ (by omega) (by omega) (by omega) (by omega) (by omega) (by unfold SBf; omega)
  have nr : ∀ o k, 481 ≤ o → o ≤ 484 → k ≠ M 468 18 → M9 o k = M o k := fun o k a b d => nC _ _ (by omega) (by omega) (by omega) (by omega) (by omega) (by unfold SBf; omega)
  have np : ∀ o k, 485 ≤ o → o ≤ 487 → ¬ (20 * M 468 18 ≤ k ∧ k < 20 * M 468 18 + 20) → M9 o k = M o k := fun o k a b d => nC _ _ (by omega) (by omega) (by omega) (by omega) (by omega) (by unfold SBf; omega)
  have hb34 := h.bal.2.2.2.2.1
  have n34 : M2r 468 34 = M 468 34 := (js1 468 34 (by omega)).trans (lM 468 34 (by omega) (by omega) (by unfold SBf; omega))
  -- the balloons
  have hab0 := (h.ab (c := M 474 p) (by omega) (by omega))
  have hcp : CP M (M 474 p) (5 * t + p) := ⟨by omega, by omega, by omega, by rw [show (5 * t + p) % 5 = p by omega]⟩
  have hb9 : QN b' ∧ TRI b' ∧ NSL b' ∧ AB (CP M (M 474 p)) (M 25 (M 474 p) + M 26 (M 474 p)) (8 * (n + 1)) (bM M q (M 474 p)) b' := by
    rcases hb with ⟨g1, g2, g3⟩ | ⟨g1, g3⟩
    · rw [g3]
      exact ⟨(x3.sn (by omega) (by omega) g1).1, (x3.sn (by omega) (by omega) g1).2.2, NSL.sv _, (hab0.sn x3.1 hcp (by omega) (by omega) g1).mono (by omega)⟩
    · rw [g3]
      exact ⟨x3.1, x3.2.2, x4, hab0.mono (by omega)⟩
  obtain ⟨qn9, tr9, ns9, ab9⟩ := hb9
  have hRB9 : RB M9 := RB.moved rI2 bmv tr9 (by omega)
  have hCR9 : CR M9 := jC.fin (fun o k ho => mB o k (by omega) (by omega))
  have hDK9 : DKs M9 := jD.fin jC (fun o k ho => mB o k (by omega) (by omega))
  have hCNS9 : CNS M9 := by
    refine ⟨⟨?_, ?_, ?_⟩, ?_⟩
    · rw [mD 0 10 (by omega) (by omega) (by omega) (by omega) (by omega), n9]; exact k1
    · rw [mD 0 11 (by omega) (by omega) (by omega) (by omega) (by omega), n17]; exact k2
    · rw [mC 0 12 (by omega) (by omega) (by omega) (by omega), c2, n18]
    · rw [mD 0 13 (by omega) (by omega) (by omega) (by omega) (by omega), n36]
      rcases k4 with ⟨y1, y2, y3⟩ | y
      · exact Or.inl ⟨y1, y2, fun r r0 r1 => by rw [nt 496 r (by omega) (by omega)]; exact y3 r r0 r1⟩
      · exact Or.inr y
  have hTY9 : TY M9 := by
    have u1 : ∀ o k, 1 ≤ o → o ≤ 7 → M9 o k = M o k := fun o k a b => mD o k (by omega) (by omega) (by omega) (by omega) (by omega)
    have u2 : ∀ o k, (o = 468 ∧ (k = 1 ∨ k = 5 ∨ k = 6)) ∨ (469 ≤ o ∧ o ≤ 473) → M9 o k = M o k := fun o k a => nC _ _ (by omega) (by omega) (by omega) (by omega) (by omega) (by unfold SBf; omega)
    unfold TY
    simp (disch := omega) only [u1 _ _, u2 _ _]
    exact h.ty
  have hPRB9 : PRB M9 := by
    intro x y0 y1
    rw [n9, nt 476 x (by omega) (by omega), nt 474 x (by omega) (by omega), nt 475 x (by omega) (by omega), mD _ 1 (by omega) (by omega) (by omega) (by omega) (by omega), mD _ 2 (by omega) (by omega) (by omega) (by omega) (by omega), mD _ 3 (by omega) (by omega) (by omega) (by omega) (by omega)]
    exact h.prb x y0 y1
  obtain ⟨⟨ty1, ty2, ty3⟩, ty4, ty5, ty6⟩ := h.ty
  have hTST9 : TST M9 := by
    intro x u y0 y1 u0 u1
    rw [n9] at y1
    rw [nt 476 x (by omega) (by omega)] at u1
    have h2 := h.rb.prob x y0 y1
    exact (h.tst x u y0 y1 u0 u1).fine (fun o k a b => mD _ _ (by omega) (by omega) (by omega) (by omega) (by omega)) (fun o k a b => nt _ _ (by omega) (by omega))
  have hRNS9 : RNS M9 := by
    intro r r0 r1
    rw [n18] at r1
    rcases Int.lt_or_eq_of_le (show r ≤ M 468 18 by omega) with hr | hr
    · obtain ⟨⟨y1, y2, y3⟩, y4, ⟨y5, y6⟩, y7, y8⟩ := h.rns r r0 hr
      have ir := h.run r0 hr
      have irr := h.rb.run r r0 hr
      have g4 : ∀ o k, 8 * r + 148 ≤ o → o ≤ 8 * r + 155 → M9 o k = M o k := fun o k a b => mD _ _ (by omega) (by omega) (by omega) (by omega) (by omega)
      have h82 : M9 482 r = M 482 r := nr 482 r (by omega) (by omega) (by omega)
      refine ⟨⟨by rw [g4 _ 4 (by omega) (by omega), nr 481 r (by omega) (by omega) (by omega)]; exact y1, by rw [g4 _ 5 (by omega) (by omega), h82]; exact y2, by rw [g4 _ 6 (by omega) (by omega), nr 483 r (by omega) (by omega) (by omega)]; exact y3⟩, ?_, ⟨?_, fun k a0 a1 => ?_⟩, ?_, fun u u0 u1 => ?_⟩
      · rw [g4 _ 7 (by omega) (by omega), Pnd.fine n36 (nr 483 r (by omega) (by omega) (by omega)) (nt 496 r (by omega) (by omega))]; exact y4
      · rw [g4 _ _ (by omega) (by omega), nr 484 r (by omega) (by omega) (by omega)]; exact y5
      · rw [nr 484 r (by omega) (by omega) (by omega)] at a1
        rw [g4 (8 * r + 150) k (by omega) (by omega), g4 (8 * r + 151) k (by omega) (by omega), g4 (8 * r + 152) k (by omega) (by omega), np 485 _ (by omega) (by omega) (by omega), np 486 _ (by omega) (by omega) (by omega), np 487 _ (by omega) (by omega) (by omega)]
        exact y6 k a0 a1
      · rw [g4 _ 5 (by omega) (by omega), y2, mD _ 3 (by omega) (by omega) (by omega) (by omega) (by omega)]
        rw [y2] at y7
        unfold JNc at y7 ⊢
        rw [g4 _ 8 (by omega) (by omega), g4 _ 9 (by omega) (by omega), show (fun x => M9 (8 * r + 153) x) = (fun x => M (8 * r + 153) x) from funext fun x => g4 _ _ (by omega) (by omega), show (fun x => M9 (8 * r + 153) x ≠ 111) = (fun x => M (8 * r + 153) x ≠ 111) from funext fun x => by rw [g4 _ _ (by omega) (by omega)]]
        exact y7
      · rw [h82, nt 476 _ (by omega) (by omega)] at u1
        have it := h.rb.tst _ u ir.2.1.1 ir.2.1.2 u0 u1
        have hS : SAM M M9 r u := by
          obtain ⟨z1, z2, z3, z4⟩ := js2 r u r0 u0 (by omega) (by omega)
          have l8 : ∀ o k, 488 ≤ o → o ≤ 491 → M1 o k = M o k := fun o k a b => lM o k (by omega) (by omega) (by unfold SBf; omega)
          have k8 : ∀ o k, 488 ≤ o → o ≤ 491 → M9 o k = M2r o k := fun o k a b => nA o k (by omega) (by omega) (by omega) (by omega)
          refine ⟨?_, ?_, ?_, fun k k0 k1 => ?_⟩
          · rw [k8 _ _ (by omega) (by omega), z1, l8 _ _ (by omega) (by omega)]
          · rw [k8 _ _ (by omega) (by omega), z2, l8 _ _ (by omega) (by omega)]
          · rw [k8 _ _ (by omega) (by omega), z3, l8 _ _ (by omega) (by omega)]
          · rw [k8 _ _ (by omega) (by omega), z4 k k0 k1, l8 _ _ (by omega) (by omega)]
        have hJR : JR M9 r u = JR M r u := JR.cg h82 it.1 irr.2.2.2.2.2.2.1 (nr _ _ (by omega) (by omega) (by omega)) (fun k k0 k1 => ⟨⟨np _ _ (by omega) (by omega) (by omega), np _ _ (by omega) (by omega) (by omega), np _ _ (by omega) (by omega) (by omega)⟩, h.rb.prg r k r0 hr k0 k1⟩) (nt _ _ (by omega) (by omega)) (nt _ _ (by omega) (by omega)) (fun k k0 k1 => nt _ _ (by omega) (by omega))
        exact (y8 u u0 u1).fin2 hJR h82 (nt _ _ (by omega) (by omega)) (nt _ _ (by omega) (by omega)) (fun k k0 k1 => nt _ _ (by omega) (by omega)) hS
    · subst hr
      have g4 : ∀ o k, 8 * M 468 18 + 148 ≤ o → o ≤ 8 * M 468 18 + 152 → k < 8 ∨ 8 * M 468 18 + 149 ≤ o → M9 o k = M2c o k := fun o k a b d => mC _ _ (by omega) (by omega) (by omega) (by omega)
      have h81 : M9 481 (M 468 18) = t := (nB _ _ (by omega) (by omega) (by omega) (by omega) (by omega)).trans s1
      have h82 : M9 482 (M 468 18) = p := (nB _ _ (by omega) (by omega) (by omega) (by omega) (by omega)).trans s2
      have h83 : M9 483 (M 468 18) = mn := (nB _ _ (by omega) (by omega) (by omega) (by omega) (by omega)).trans s3
      have h84 : M9 484 (M 468 18) = M 468 1 := (nB _ _ (by omega) (by omega) (by omega) (by omega) (by omega)).trans s4
      refine ⟨⟨by rw [g4 _ 4 (by omega) (by omega) (by omega), c3, h81], by rw [g4 _ 5 (by omega) (by omega) (by omega), c4, h82], by rw [g4 _ 6 (by omega) (by omega) (by omega), c5, h83]⟩, ?_, ⟨?_, fun k a0 a1 => ?_⟩, ?_, fun u u0 u1 => ?_⟩
      · rw [g4 _ 7 (by omega) (by omega) (by omega), c6]
        unfold Pnd
        rw [n36, h83, nt 496 _ (by omega) (by omega)]
        have ho := (h.rb.opn (M 468 18) (by omega) h40).2 (Int.le_refl _)
        rw [ho]
        rcases k4 with ⟨y1, y2, y3⟩ | ⟨y1, y2⟩
        · rw [y1, y2, if_neg (by omega)]
          constructor
          · intro w; exact absurd rfl w
          · intro w; exact absurd rfl w.1
        · rw [y2]
          split
          · rename_i w; exact ⟨fun _ => ⟨by omega, w, rfl⟩, fun _ => by omega⟩
          · rename_i w; exact ⟨fun y => absurd rfl y, fun y => absurd y.2.1 w⟩
      · rw [g4 _ 3 (by omega) (by omega) (by omega), c7, h84]; exact ty1
      · rw [h84] at a1
        obtain ⟨d1, d2, d3⟩ := c8 k a0 (by omega)
        obtain ⟨e1, e2, e3⟩ := s5 k a0 a1
        obtain ⟨f1, f2, f3⟩ := ty4 k a0 a1
        have q9 : ∀ o, o = 469 ∨ o = 470 ∨ o = 471 → (up Mc 497 0 v) o k = M o k := fun o ho => hh o k (by omega) (by omega) (by omega)
        rw [g4 (8 * M 468 18 + 150) k (by omega) (by omega) (by omega), g4 (8 * M 468 18 + 151) k (by omega) (by omega) (by omega), g4 (8 * M 468 18 + 152) k (by omega) (by omega) (by omega), d1, d2, d3, nB 485 _ (by omega) (by omega) (by omega) (by omega) (by omega), nB 486 _ (by omega) (by omega) (by omega) (by omega) (by omega), nB 487 _ (by omega) (by omega) (by omega) (by omega) (by omega), e1, e2, e3, q9 469 (by omega), q9 470 (by omega), q9 471 (by omega)]
        exact ⟨f1, f2, f3⟩
      · rw [g4 _ 5 (by omega) (by omega) (by omega), c4, mD _ 3 (by omega) (by omega) (by omega) (by omega) (by omega), (h.prb p p0 (by omega)).1]
        unfold JNc
        rw [mB _ 8 (by omega) (by omega), mB _ 9 (by omega) (by omega), show (fun x => M9 (8 * M 468 18 + 153) x) = (fun x => M3 (8 * M 468 18 + 153) x) from funext fun x => mB _ _ (by omega) (by omega), show (fun x => M9 (8 * M 468 18 + 153) x ≠ 111) = (fun x => M3 (8 * M 468 18 + 153) x ≠ 111) from funext fun x => by rw [mB _ _ (by omega) (by omega)]]
        exact ⟨j5, j6⟩
      · rw [h82, nt 476 _ (by omega) (by omega)] at u1
        have hR2 : RES M9 (M 468 18) u M2r := RES.of (fun o k ho => (nB o k (by omega) (by omega) (by omega) (by omega) (by omega)).symm) (js3 u u0 u1)
        exact SAM.res ⟨nA _ _ (by omega) (by omega) (by omega) (by omega), nA _ _ (by omega) (by omega) (by omega) (by omega), nA _ _ (by omega) (by omega) (by omega) (by omega), fun k _ _ => nA _ _ (by omega) (by omega) (by omega) (by omega)⟩ hR2
  have hCOR : COR M9 := ⟨hRB9, hCR9, hDK9, hCNS9, hPRB9, hTST9, hRNS9⟩
  have hB9 : ∀ o, o = 27 ∨ o = 34 → ∀ b, BOK Mc o b → BOK M9 o b := fun o ho b hb => hb.lo (jC.fin (fun a k ha => jF a k (by omega))) ho (fun o k a => mA o k (by omega))
  have sol9 : ∀ u x, Sol M9 u x ↔ Sol M2r u x := fun u x => Sol.fine (nA _ _ (by omega) (by omega) (by omega) (by omega)) (fun r r0 r1 => ⟨nA _ _ (by omega) (by omega) (by omega) (by omega), nA _ _ (by omega) (by omega) (by omega) (by omega), Acc.fine (nA _ _ (by omega) (by omega) (by omega) (by omega)) (nA _ _ (by omega) (by omega) (by omega) (by omega)) (fun k => nA _ _ (by omega) (by omega) (by omega) (by omega))⟩)
  have e18 : M2r 468 18 = M 468 18 + 1 := (js1 468 18 (by omega)).trans s7
  have eo : ∀ o r, 481 ≤ o → o ≤ 482 → r < M 468 18 → M2r o r = M o r := fun o r a b d => (js1 o r (by omega)).trans (lM o r (by omega) (by omega) (by unfold SBf; omega))
  have hA : ∀ r, 0 ≤ r → r < M 468 18 → (Acc M2r r ↔ Acc M r) := fun r r0 r1 => by
    have ir := h.run r0 r1
    have e76 : ∀ k, M2r 476 k = M 476 k := fun k => (js1 476 k (by omega)).trans (lM 476 k (by omega) (by omega) (by unfold SBf; omega))
    unfold Acc
    rw [eo 482 r (by omega) (by omega) r1, e76]
    constructor
    · intro y s a0 a1
      have z := js2 r s r0 a0 (by omega) (by omega)
      rw [← lM 488 _ (by omega) (by omega) (by unfold SBf; omega), ← z.1]
      exact y _ a0 a1
    · intro y s a0 a1
      have z := js2 r s r0 a0 (by omega) (by omega)
      rw [z.1, lM 488 _ (by omega) (by omega) (by unfold SBf; omega)]
      exact y _ a0 a1
  have sOld : ∀ u x, Sol M u x → Sol M2r u x := fun u x => by
    rintro ⟨r, r0, r1, d1, d2, d3⟩
    exact ⟨r, r0, by rw [e18]; omega, by rw [eo 481 r (by omega) (by omega) r1]; exact d1, by rw [eo 482 r (by omega) (by omega) r1]; exact d2, (hA r r0 r1).mpr d3⟩
  have sNew : ∀ u x, ¬ (u = t ∧ x = p) → Sol M2r u x → Sol M u x := fun u x hno => by
    rintro ⟨r, r0, r1, d1, d2, d3⟩
    rw [e18] at r1
    rcases Int.lt_or_eq_of_le (show r ≤ M 468 18 by omega) with hr | hr
    · rw [eo 481 r (by omega) (by omega) hr] at d1
      rw [eo 482 r (by omega) (by omega) hr] at d2
      exact ⟨r, r0, hr, d1, d2, (hA r r0 hr).mp d3⟩
    · exfalso
      subst hr
      rw [js1 481 _ (by omega), s1] at d1
      rw [js1 482 _ (by omega), s2] at d2
      exact hno ⟨d1.symm, d2.symm⟩
  have hT : ∀ u x, Sol M u x → 0 ≤ u ∧ u < M 468 17 := fun u x => by
    rintro ⟨r, r0, r1, d1, d2, d3⟩
    have := (h.run r0 r1).1
    omega
  have ra9 : RAb M9 (M 474 p) b' := by
    have a1 := jRA.cong (M' := M9) (by omega) (by omega) (fun o k ho => mA o k (by omega))
    rw [fFo_congr (s2 := fun u => Sol M2r u p) (by omega) (fun u u0 u1 => ?_), fFo_own (R := b') x3.1 x4 p0 (by omega) t0 t1 (by omega) (fun u u0 u1 hne hs => ?_) (fun u u0 u1 hs => ?_) hb] at a1
    · exact a1
    · have a2 := sNew u p (fun y => hne y.1) hs
      rw [bM1 (by omega) (by omega)]
      exact (h.bal.2.2.2.1 u p u0 (hT u p a2).2 p0 p1).mpr a2
    · rw [bM1 (by omega) (by omega)]
      refine Classical.byContradiction fun y => hs (sOld u p ((h.bal.2.2.2.1 u p u0 u1 p0 p1).mp y))
    · rw [← mA 29 _ (by omega)]
      have := hCOR.s29 (hB9 27 (by omega) 0 jB0) (t := u) (p := p) u0 (by rw [hCNS9.1.2.1, n17]; omega) p0 (by omega)
      rw [show (27 : Int) + 2 = 29 by omega] at this
      exact this.trans (sol9 u p)
  refine ⟨?_, _, ⟨hRB9, hCR9, j2.fin (fun o k a b => mB o k (by omega) (by omega)) (fun r k r0 r1 => mB _ k (by omega) (by omega)), hDK9⟩, ⟨hB9 _ (by omega) _ jB0, hB9 _ (by omega) _ jB1⟩, ⟨hCNS9, hTY9, hPRB9, hTST9, hRNS9, fun r u r0 r1 u0 u1 w => ?_⟩, h.bal.move (δ := 0) (by omega) (by omega) (c := M 474 p) (by omega) (by omega) (fun o k a b d e f g => ?_) n17 n9 (fun k => nt _ _ (by omega) (by omega)) (fun o k ho hcp => ?_) (fun k hk => ?_) ra9 bB (by rw [Int.add_zero]; exact ab9) qn9 tr9 ns9 (by omega) (by omega) (fun u x u0 u1 y0 y1 => ?_)⟩
  · rw [nB 468 0 (by omega) (by omega) (by omega) (by omega) (by omega), s0]
  · rw [n18, nt 476 _ (by omega) (by omega)] at w
    by_cases hr : r = M 468 18
    · subst hr
      have h82 : M9 482 (M 468 18) = p := (nB _ _ (by omega) (by omega) (by omega) (by omega) (by omega)).trans s2
      rw [h82] at w
      rw [mD _ u (by omega) (by omega) (by omega) (by omega) (by omega)]
      exact h.slt _ u r0 r1 u0 u1 (by omega)
    · rw [nr 482 r (by omega) (by omega) hr] at w
      rw [mD _ u (by omega) (by omega) (by omega) (by omega) (by omega)]
      exact h.slt _ u r0 r1 u0 u1 (by omega)
  · rw [mA o k (by omega)]; exact jfr o k a b d e f g
  · have hcp2 : ¬ CP M2r (M 474 p) k := fun y => hcp (by
      unfold CP at y ⊢
      rw [js1 468 17 (by omega), js1 468 9 (by omega), js1 474 _ (by omega), lM 468 17 (by omega) (by omega) (by unfold SBf; omega), lM 468 9 (by omega) (by omega) (by unfold SBf; omega), lM 474 _ (by omega) (by omega) (by unfold SBf; omega)] at y
      exact y)
    rw [bF o k (fun y => hcp2 y.2) (by omega) (by omega), js1 o k (by omega), lM o k (by omega) (by omega) (by unfold SBf; omega)]
  · rw [bF 495 k (by omega) (by omega) (by omega), js1 495 k (by omega), lM 495 k (by omega) (by omega) (by unfold SBf; omega)]
  · rw [ra9.1 _ (by omega) (by omega), sol9]
    have hb4 := h.bal.2.2.2.1 u x u0 u1 y0 y1
    rw [← bM1 (M := M) (q := q) (c := M 474 p) (by omega) (by omega)] at hb4
    by_cases w : u = t ∧ x = p
    · obtain ⟨rfl, rfl⟩ := w
      rcases hb with ⟨g1, g2, g3⟩ | ⟨g1, g3⟩
      · refine ⟨fun _ => g2, fun _ y => ?_⟩
        rw [g3, SNo_45 x3.1 (by omega) (by omega) g1] at y
        exact y.1 rfl
      · rw [g3]
        constructor
        · intro y; exact sOld _ _ (hb4.mp y)
        · intro y z; exact g1 ⟨z, y⟩
    · have e45 : b'.1 (5 * u + x) = 45 ↔ (bM M q (M 474 p)).1 (5 * u + x) = 45 := by
        rcases hb with ⟨g1, g2, g3⟩ | ⟨g1, g3⟩
        · rw [g3, SNo_45 x3.1 (by omega) (by omega) g1]
          constructor
          · intro y; exact y.2
          · intro y; exact ⟨fun z => w ⟨by omega, by omega⟩, y⟩
        · rw [g3]
      rw [Ne, e45]
      constructor
      · intro y; exact sOld _ _ (hb4.mp y)
      · intro y; exact hb4.mpr (sNew _ _ w y)
theorem s_submit {n : Int} {q : Int → List Int} {M : Mem} (h : JJn n q M) (hn : 0 ≤ n ∧ n ≤ 512) (t p mn : Int) (ht : rg t) (hp : rg p) (hmn : rg mn) {kw : Int} {Mw : Mem} (hw : (kw = 0 ∧ ∃ z Mc, ((((0 ≤ t ∧ t < M 0 11) ∧ 0 ≤ p ∧ p < M 0 10) ∧ (0 ≤ mn ∧ mn ≤ 999 ∧ (M 0 12 = 0 ∨ M (8 * M 0 12 + 140) 6 ≤ mn)) ∧ M 0 12 < 40) ∧ z = M 0 12 ∧ ∃ M2 M3, SBM M t p mn M2 ∧ JBA M2 (M 0 12) (M (20 * p + 48) 3) M3 ∧ CR M3 ∧ DKs M3 ∧ (∀ o k, ¬ (17 ≤ o ∧ o ≤ 40) → Mc o k = M3 o k) ∧ BOK Mc 27 0 ∧ BOK Mc 34 1 ∧ RAb Mc (M (20 * p + 48) 1) (fFo (fun u => Mc 29 (5 * u + p) ≠ -1) p (M 0 11) (bM M q (M (20 * p + 48) 1))) ∧ ∀ o k, 17 ≤ o → o ≤ 26 → o ≠ 18 → o ≠ M (20 * p + 48) 1 + 20 → ¬ (k = M (20 * p + 48) 1 ∧ 24 ≤ o) → ¬ (o = 17 ∧ k = 5) → Mc o k = M o k) ∧ Mw = up Mc 497 0 (wr z)) ∨ (kw = 1 ∧ (¬ ((0 ≤ t ∧ t < M 0 11) ∧ 0 ≤ p ∧ p < M 0 10)) ∧ Mw = M) ∨ (kw = 2 ∧ (((0 ≤ t ∧ t < M 0 11) ∧ 0 ≤ p ∧ p < M 0 10) ∧ ¬ (0 ≤ mn ∧ mn ≤ 999 ∧ (M 0 12 = 0 ∨ M (8 * M 0 12 + 140) 6 ≤ mn))) ∧ Mw = M) ∨ (kw = 3 ∧ (((0 ≤ t ∧ t < M 0 11) ∧ 0 ≤ p ∧ p < M 0 10) ∧ (0 ≤ mn ∧ mn ≤ 999 ∧ (M 0 12 = 0 ∨ M (8 * M 0 12 + 140) 6 ≤ mn)) ∧ M 0 12 = 40) ∧ Mw = M)) : HI M Mw ∧ ∀ (zr : Int) (M9 : Mem), ((¬ ((0 ≤ t ∧ t < Mw 468 17) ∧ 0 ≤ p ∧ p < Mw 468 9) ∧ M9 = up Mw 468 0 1) ∨ ((((0 ≤ t ∧ t < Mw 468 17) ∧ 0 ≤ p ∧ p < Mw 468 9) ∧ ¬ (0 ≤ mn ∧ mn ≤ 999 ∧ (Mw 468 18 = 0 ∨ Mw 483 (Mw 468 18 - 1) ≤ mn))) ∧ M9 = up Mw 468 0 2) ∨ ((((0 ≤ t ∧ t < Mw 468 17) ∧ 0 ≤ p ∧ p < Mw 468 9) ∧ (0 ≤ mn ∧ mn ≤ 999 ∧ (Mw 468 18 = 0 ∨ Mw 483 (Mw 468 18 - 1) ≤ mn)) ∧ Mw 468 18 = 40) ∧ M9 = up Mw 468 0 3) ∨ ((((0 ≤ t ∧ t < Mw 468 17) ∧ 0 ≤ p ∧ p < Mw 468 9) ∧ (0 ≤ mn ∧ mn ≤ 999 ∧ (Mw 468 18 = 0 ∨ Mw 483 (Mw 468 18 - 1) ≤ mn)) ∧ Mw 468 18 < 40) ∧ zr = Mw 468 18 ∧ ∃ M1 M2 b', SUBd Mw t p mn M1 ∧ JS M1 (Mw 468 18) (Mw 476 p) M2 ∧ RB M2 ∧ BMV M2 (Mw 474 p) b' 1 M9 ∧ (((bM M q (Mw 474 p)).1 (5 * t + p) = 45 ∧ Sol M2 t p ∧ b' = SNo (5 * t + p) (bM M q (Mw 474 p))) ∨ (¬ ((bM M q (Mw 474 p)).1 (5 * t + p) = 45 ∧ Sol M2 t p) ∧ b' = bM M q (Mw 474 p))))) → M9 468 0 = kw ∧ (kw = 0 → Mw 497 0 = wr zr) ∧ ∃ q2, JJn (n + 1) q2 M9 := by
  have i0 := h.rb.rng
  obtain ⟨⟨k1, k2, k3⟩, k4⟩ := h.cns
  have hmin : M 0 12 ≠ 0 → M (8 * M 0 12 + 140) 6 = M 483 (M 468 18 - 1) := fun hne => by
    have a := (h.rns (M 468 18 - 1) (by omega) (by omega)).1.2.2
    rw [k3, ← a]
    congr 1
    omega
  rcases hw with ⟨hk, z, Mc, ⟨⟨⟨ht9, hp9⟩, hm9, h40⟩, hz, M2c, M3, sb, jb, jC, jD, jF, jB0, jB1, jRA, jfr⟩, hMw⟩ | ⟨hk, hS, hMw⟩ | ⟨hk, hS, hMw⟩ | ⟨hk, hS, hMw⟩
  · have e0 := hMw.symm
    subst e0
    have e3 := h.prb p (by omega) (by omega)
    have ec := e3.2.1 (by omega)
    have ip := h.rb.prob p (by omega) (by omega)
    rw [e3.1, k3] at jb
    rw [ec.1, k2] at jRA
    rw [ec.1] at jfr
    have hh : HI M (up Mc 497 0 (wr z)) := fun o k a b d => by
      rw [up_o (by omega), jF o k (by omega), jb.1 o k (by omega) (by omega) (by omega), sb.1 o k (by omega) (by omega)]
    refine ⟨hh, fun zr M9 hr => ?_⟩
    rw [hh 468 9 (by omega) (by omega) (by omega), hh 468 17 (by omega) (by omega) (by omega), hh 468 18 (by omega) (by omega) (by omega), hh 483 _ (by omega) (by omega) (by omega), hh 476 p (by omega) (by omega) (by omega), hh 474 p (by omega) (by omega) (by omega)] at hr
    rcases hr with ⟨g, -⟩ | ⟨⟨g1, g2⟩, -⟩ | ⟨⟨g1, g2, g3⟩, -⟩ | ⟨⟨g1, g2, g3⟩, g4, M1, M2r, b', su, js, rI2, bmv, hb⟩
    · omega
    · omega
    · omega
    · obtain ⟨y1, q2, y2⟩ := h.sub hn (by omega) (by omega) (by omega) (by omega) (by omega) (by omega) g3 sb jb jC jD jF jB0 jB1 jRA jfr hh su js rI2 bmv hb
      exact ⟨y1.trans hk.symm, fun _ => by rw [up_s, hz, g4, k3], q2, y2⟩
  all_goals
    have e0 := hMw.symm
    subst e0
    refine ⟨fun _ _ _ _ _ => rfl, fun zr M9 hr => ?_⟩
    rcases hr with ⟨g, rfl⟩ | ⟨⟨g1, g2⟩, rfl⟩ | ⟨⟨g1, g2, g3⟩, rfl⟩ | ⟨⟨g1, g2, g3⟩, -⟩
    · exact ⟨by rw [up_s]; omega, fun w => by omega, q, h.code _⟩
    · exact ⟨by rw [up_s]; omega, fun w => by omega, q, h.code _⟩
    · exact ⟨by rw [up_s]; omega, fun w => by omega, q, h.code _⟩
    · omega
