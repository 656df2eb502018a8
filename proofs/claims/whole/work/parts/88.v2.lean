theorem RB.s95 {M : Mem} {c v : Int} (I : RB M) : RB (up M 495 c v) := by
  unfold RB at I ⊢
  simpa (disch := omega) only [up_o] using I
theorem qs_fFo {sol : Int → Prop} {p k T : Int} {b : BSt} (h : QS k b) (p0 : 0 ≤ p) (p1 : p < 5) (T0 : 0 ≤ T) (T1 : T ≤ 8) : TRI (fFo sol p T b) ∧ QN (fFo sol p T b) := by
  unfold fFo
  have a := (h.fTk (sol := sol) (p := p) T.toNat).sv.fSn (sol := sol) p0 p1 T.toNat (by omega)
  exact ⟨a.2.2, a.1⟩
theorem s_stock {n : Int} {q : Int → List Int} {M : Mem} (h : JJn n q M) (hn : 0 ≤ n ∧ n ≤ 512) (c m : Int) (hc : rg c) (hm : rg m) {kw : Int} {Mw : Mem} (hw : (kw = 0 ∧ ∃ z Mc, (((0 ≤ c ∧ c ≤ 3) ∧ 1 ≤ m ∧ m ≤ 20) ∧ z = Mc 25 c ∧ FRb (up M 25 c (M 25 c + m)) c Mc ∧ RAb Mc c (SVo ((bM M q c).1, (bM M q c).2.1, (bM M q c).2.2.1 + m, (bM M q c).2.2.2.1, (bM M q c).2.2.2.2))) ∧ Mw = up Mc 497 0 (wr z)) ∨ (kw = 1 ∧ (¬ ((0 ≤ c ∧ c ≤ 3) ∧ 1 ≤ m ∧ m ≤ 20)) ∧ Mw = M)) : HI M Mw ∧ ∀ (zr : Int) (M9 : Mem), ((¬ ((0 ≤ c ∧ c ≤ 3) ∧ 1 ≤ m ∧ m ≤ 20) ∧ M9 = up Mw 468 0 1) ∨ (((0 ≤ c ∧ c ≤ 3) ∧ 1 ≤ m ∧ m ≤ 20) ∧ zr = M9 495 c ∧ BMV (up (up Mw 468 0 0) 495 c (Mw 495 c + m)) c (SVo ((bM M q c).1, (bM M q c).2.1, (bM M q c).2.2.1 + m, (bM M q c).2.2.2.1, (bM M q c).2.2.2.2)) 0 M9)) → M9 468 0 = kw ∧ (kw = 0 → Mw 497 0 = wr zr) ∧ ∃ q2, JJn (n + 1) q2 M9 := by
  have i0 := h.rb.rng
  have c0 := h.cns.1
  rcases hw with ⟨hk, z, Mc, ⟨hm9, hz, hF, hR⟩, hMw⟩ | ⟨hk, hS, hMw⟩
  · have e0 := hMw.symm
    subst e0
    obtain ⟨x1, x2, x3, x4⟩ := h.bqn hn.1 (c := c) (by omega) (by omega)
    have hh : HI M (up Mc 497 0 (wr z)) := fun o k a b d => by rw [up_o (by omega), hF o k (by omega) (by omega) (by omega) (by omega), up_o (by omega)]
    refine ⟨hh, ?_⟩
    intro zr M9 hr
    rcases hr with ⟨g, -⟩ | ⟨-, g2, g3⟩
    · exact absurd hm9 g
    · obtain ⟨F, B, S, s1, s2⟩ := id g3
      have hRB := ((h.rb.hi hh).code 0).s95 (c := c) (v := up Mc 497 0 (wr z) 495 c + m)
      have n34 : (up (up (up Mc 497 0 (wr z)) 468 0 0) 495 c (up Mc 497 0 (wr z) 495 c + m)) 468 34 = M 468 34 := by rw [up_o (by omega), up_k (by omega), hh 468 34 (by omega) (by omega) (by omega)]
      have hb34 := h.bal.2.2.2.2.1
      have m1 : ∀ o k, o < 468 → M9 o k = Mc o k := fun o k a => by rw [F o k (by omega) (by omega) (by omega), up_o (by omega), up_o (by omega), up_o (by omega)]
      have m2 : ∀ o k, 468 ≤ o → o < 497 → ¬ (o = 468 ∧ (k = 0 ∨ k = 34 ∨ k = 35)) → ¬ (493 ≤ o ∧ o ≤ 495) → M9 o k = M o k := fun o k a b d e => by rw [F o k (by omega) (by omega) (by omega), up_n (by omega), up_n (by omega), hh o k a b (by omega)]
      have hCP : ∀ x, CP (up (up (up Mc 497 0 (wr z)) 468 0 0) 495 c (up Mc 497 0 (wr z) 495 c + m)) c x ↔ CP M c x := fun x => by
        unfold CP
        simp (disch := omega) only [up_o, up_k]
        have y1 := hh 468 17 (by omega) (by omega) (by omega)
        have y2 := hh 468 9 (by omega) (by omega) (by omega)
        have y3 := hh 474 (x % 5) (by omega) (by omega) (by omega)
        rw [up_o (by omega)] at y1 y2 y3
        rw [y1, y2, y3]
      have ab0 := h.ab (c := c) (by omega) (by omega)
      have ab1 : AB (CP M c) (M 25 c + M 26 c + m) (8 * (n + 1)) (bM M q c) ((bM M q c).1, (bM M q c).2.1, (bM M q c).2.2.1 + m, (bM M q c).2.2.2.1, (bM M q c).2.2.2.2) := ⟨ab0.1, ab0.2.1, by have := ab0.2.2.1; show (bM M q c).2.2.1 + m + (bM M q c).2.2.2.2 = _; omega, by have := ab0.2.2.2.1; show 0 ≤ (bM M q c).2.2.1 + m; omega, ⟨ab0.2.2.2.2.1.1, by have := ab0.2.2.2.2.1.2; show (bM M q c).2.2.2.1 ≤ _; omega⟩, ab0.2.2.2.2.2⟩
      have hqn : QN ((bM M q c).1, (bM M q c).2.1, (bM M q c).2.2.1 + m, (bM M q c).2.2.2.1, (bM M q c).2.2.2.2) := x3.1
      have htr : TRI (SVo ((bM M q c).1, (bM M q c).2.1, (bM M q c).2.2.1 + m, (bM M q c).2.2.2.1, (bM M q c).2.2.2.2)) := TRI.sv (b := ((bM M q c).1, (bM M q c).2.1, (bM M q c).2.2.1 + m, (bM M q c).2.2.2.1, (bM M q c).2.2.2.2)) x3.2.2
      have ra9 := hR.cong (by omega) (by omega) (fun a k ha => m1 a k (by omega))
      have hA : ∀ r, Acc M9 r ↔ Acc M r := fun r => Acc.fine (m2 _ _ (by omega) (by omega) (by omega) (by omega)) (m2 _ _ (by omega) (by omega) (by omega) (by omega)) (fun k => m2 _ _ (by omega) (by omega) (by omega) (by omega))
      refine ⟨?_, fun _ => ?_, _, h.bl (fun o k a => ?_) m2 (RB.moved hRB g3 htr (by rw [n34]; omega)) (h.bal.move (δ := m) (by omega) (by omega) (by omega) (by omega) (fun o k a b d e f g => ?_) (m2 _ _ (by omega) (by omega) (by omega) (by omega)) (m2 _ _ (by omega) (by omega) (by omega) (by omega)) (fun p => m2 _ _ (by omega) (by omega) (by omega) (by omega)) (fun o k ho hcp => ?_) (fun k hk2 => ?_) ra9 B (ab1.sv hqn) hqn.sv htr (NSL.sv _) (by omega) (by rw [n34] at s2; omega) (fun t p t0 t1 p0 p1 => ?_))⟩
      · rw [F 468 0 (by omega) (by omega) (by omega), up_o (by omega), up_s]; omega
      · rw [up_s, hz, g2, B.2.2.1, hR.2.2.1]
      · rw [m1 o k (by omega), hF o k (by omega) (by omega) (by omega) (by omega), up_o (by omega)]
      · rw [m1 o k (by omega), hF o k d e (by omega) g, up_n (by omega)]
      · rw [F o k (fun w => hcp ((hCP k).mp w.2)) (by omega) (by omega), up_o (by omega), up_o (by omega), hh o k (by omega) (by omega) (by omega)]
      · rw [F 495 k (by omega) (by omega) (by omega), up_k hk2, up_o (by omega), hh 495 k (by omega) (by omega) (by omega)]
      · rw [ra9.1 _ (by omega) (by omega), Sol.fine (m2 _ _ (by omega) (by omega) (by omega) (by omega)) (fun r r0 r1 => ⟨m2 _ _ (by omega) (by omega) (by omega) (by omega), m2 _ _ (by omega) (by omega) (by omega) (by omega), hA r⟩), Ne, SVo_45 hqn]
        show ¬ (bM M q c).1 (5 * t + p) = 45 ↔ _
        rw [bM1 (by omega) (by omega)]
        exact h.bal.2.2.2.1 t p t0 t1 p0 p1
  · have e0 := hMw.symm
    subst e0
    refine ⟨fun _ _ _ _ _ => rfl, fun zr M9 hr => ?_⟩
    rcases hr with ⟨g, rfl⟩ | ⟨g, -⟩
    · exact ⟨by rw [up_s]; omega, fun w => by omega, q, h.code _⟩
    · exact absurd g hS
theorem jaw_hi {M M2c Mc : Mem} {p t a z : Int} {b : BSt} (p0 : 0 ≤ p) (p1 : p < 5) (t0 : 0 ≤ t) (t1 : t < 6) (h12 : M 0 12 ≤ 40) (hC : CPY M p t a M2c) (hJ : JAW M2c p t b z Mc) {o k : Int} (ho : 468 ≤ o) : Mc o k = M o k := by
  obtain ⟨M1c, jn, jz, jC, jD, jF, -⟩ := hJ
  have e12 : M2c 0 12 = M 0 12 := hC.1 0 12 (by omega) (by omega)
  rw [jF o k (by omega), jn.1 o k (by omega) (by rintro ⟨r, r0, r1, -, w⟩; omega), hC.1 o k (by omega) (by omega)]
set_option maxHeartbeats 1600000 in
/-- judging anew: both sides stay alike -/
theorem JJn.jdg {n : Int} {q : Int → List Int} {M : Mem} (h : JJn n q M) (hn : 0 ≤ n ∧ n ≤ 512) {p t a z zr v : Int} {Mc M2c M9 : Mem} (p0 : 0 ≤ p) (p1 : p < M 468 9) (t0 : 0 ≤ t) (t1 : t < 6) (hta : (t = M 476 p ∧ a = M 476 p + 1) ∨ (t < M 476 p ∧ a = M 476 p))
    (hC : CPY M p t a M2c) (hJ : JAW M2c p t (bM M q (M 474 p)) z Mc) (hT : TSP (up Mc 497 0 v) p t a (bM M q (M 474 p)) zr M9) : z = zr ∧ M9 468 0 = 0 ∧ ∃ q2, JJn (n + 1) q2 M9 := by
  have i0 := h.rb.rng
  obtain ⟨⟨k1, k2, k3⟩, k4⟩ := h.cns
  have ip := h.rb.prob p p0 p1
  have hcol := (h.prb p p0 (by omega)).2.1 p1
  have hh0 : ∀ {o k : Int}, 468 ≤ o → Mc o k = M o k := fun ho => jaw_hi p0 (by omega) t0 t1 (by omega) hC hJ ho
  have hh : HI M (up Mc 497 0 v) := fun o k a b d => by rw [up_o (by omega), hh0 a]
  obtain ⟨c1, c2, c3, c4, c5, c6⟩ := id hC
  obtain ⟨M1c, jn, jz, jC, jD, jF, jB0, jB1, jRA, jfr⟩ := id hJ
  obtain ⟨M1, M2r, ly, rj, ra, rz, rI2, rI1, tch, bmv⟩ := id hT
  obtain ⟨jn1, jn2, jn3, jn4, jn5⟩ := id jn
  obtain ⟨rj1, rj2, rj3, rj4⟩ := id rj
  obtain ⟨ly1, ly2, ly3, ly4, ly5⟩ := id ly
  obtain ⟨bF, bB, bS, b34, b34'⟩ := id bmv
  obtain ⟨x1, x2, x3, x4⟩ := h.bqn hn.1 (c := M 474 p) (by omega) (by omega)
  have e10 : M2c 0 10 = M 468 9 := (c1 0 10 (by omega) (by omega)).trans k1
  have e11 : M2c 0 11 = M 468 17 := (c1 0 11 (by omega) (by omega)).trans k2
  have e12 : M2c 0 12 = M 468 18 := (c1 0 12 (by omega) (by omega)).trans k3
  have w18 : (up Mc 497 0 v) 468 18 = M 468 18 := hh _ _ (by omega) (by omega) (by omega)
  have w17 : (up Mc 497 0 v) 468 17 = M 468 17 := hh _ _ (by omega) (by omega) (by omega)
  have w74 : (up Mc 497 0 v) 474 p = M 474 p := hh _ _ (by omega) (by omega) (by omega)
  rw [w18] at rj3 rj4 rz
  rw [w74] at bF bB bmv
  rw [w17] at bB bmv
  -- the class's side
  have mA : ∀ o k, o < 468 → M9 o k = Mc o k := fun o k ho => by
    rw [bF o k (by omega) (by omega) (by omega), rj1 o k (by omega) (by omega), ly5 o k (by unfold LYf; omega), up_o (by omega), up_o (by omega)]
  have mB : ∀ o k, o < 468 → ¬ (17 ≤ o ∧ o ≤ 40) → M9 o k = M1c o k := fun o k ho h2 => (mA o k ho).trans (jF o k h2)
  have mC : ∀ o k, o < 468 → ¬ (10 ≤ o ∧ o ≤ 40) → ¬ JNf M2c p t o k → M9 o k = M2c o k := fun o k ho h2 h3 => (mB o k ho (by omega)).trans (jn1 o k (by omega) h3)
  have mD : ∀ o k, o < 468 → ¬ (10 ≤ o ∧ o ≤ 40) → ¬ JNf M2c p t o k → ¬ (20 * p + 3 * t + 50 ≤ o ∧ o ≤ 20 * p + 3 * t + 52) → ¬ (o = 20 * p + 48 ∧ k = 3) → M9 o k = M o k := fun o k ho h2 h3 h4 h5 => (mC o k ho h2 h3).trans (c1 o k h4 h5)
  have jlo : ∀ o k, o < 148 → ¬ JNf M2c p t o k := fun o k ho => by rintro ⟨r, r0, r1, -, w⟩; omega
  have jp : ∀ r o k, 0 ≤ r → 8 * r + 149 ≤ o → o ≤ 8 * r + 152 → ¬ JNf M2c p t o k := fun r o k r0 a b => by rintro ⟨x, y0, y1, -, w⟩; omega
  have jf : ∀ r k, 0 ≤ r → k < 8 → ¬ JNf M2c p t (8 * r + 148) k := fun r k r0 a => by rintro ⟨x, y0, y1, -, w⟩; omega
  have f5 : ∀ r, 0 ≤ r → r < M 468 18 → M2c (8 * r + 148) 5 = M 482 r := fun r r0 r1 => (c1 _ 5 (by omega) (by omega)).trans (h.rns r r0 r1).1.2.1
  have js : ∀ r o k, 0 ≤ r → r < 40 → 8 * r + 153 ≤ o → o ≤ 8 * r + 155 → ¬ (r < M 468 18 ∧ M 482 r = p ∧ k = t) → ¬ JNf M2c p t o k := fun r o k r0 r1 a b hno => by
    rintro ⟨x, y0, y1, y2, w⟩
    have : x = r := by omega
    subst this
    rw [e12] at y1
    exact hno ⟨y1, by rw [← f5 x y0 y1]; exact y2, by omega⟩
  -- the reference's side
  have nA : ∀ o k, 468 ≤ o → o < 497 → ¬ (493 ≤ o ∧ o ≤ 495) → ¬ (o = 468 ∧ (k = 34 ∨ k = 35)) → M9 o k = M2r o k := fun o k a b d e => bF o k (by omega) (by omega) (by omega)
  have nB : ∀ o k, 468 ≤ o → o < 497 → ¬ (493 ≤ o ∧ o ≤ 495) → ¬ (o = 468 ∧ (k = 34 ∨ k = 35)) → o ≠ 476 → ¬ (488 ≤ o ∧ o ≤ 492) → M9 o k = M1 o k := fun o k a b d e f g => (nA o k a b d e).trans (rj1 o k f g)
  have lM : ∀ o k, 468 ≤ o → o < 497 → ¬ LYf p t o k → ¬ (o = 468 ∧ k = 0) → M1 o k = M o k := fun o k a b d e => by rw [ly5 o k d, up_n (by omega), hh o k a b e]
  have nC : ∀ o k, 468 ≤ o → o < 497 → ¬ (493 ≤ o ∧ o ≤ 495) → ¬ (o = 468 ∧ (k = 0 ∨ k = 34 ∨ k = 35)) → o ≠ 476 → ¬ (488 ≤ o ∧ o ≤ 492) → ¬ LYf p t o k → M9 o k = M o k := fun o k a b d e f g l => (nB o k a b d (by omega) f g).trans (lM o k a b l (by omega))
  have n18 : M9 468 18 = M 468 18 := nC _ _ (by omega) (by omega) (by omega) (by omega) (by omega) (by omega) (by unfold LYf; omega)
  have n17 : M9 468 17 = M 468 17 := nC _ _ (by omega) (by omega) (by omega) (by omega) (by omega) (by omega) (by unfold LYf; omega)
  have n9 : M9 468 9 = M 468 9 := nC _ _ (by omega) (by omega) (by omega) (by omega) (by omega) (by omega) (by unfold LYf; omega)
  have n36 : M9 468 36 = M 468 36 := nC _ _ (by omega) (by omega) (by omega) (by omega) (by omega) (by omega) (by unfold LYf; omega)
  have n76p : M9 476 p = a := (nA _ _ (by omega) (by omega) (by omega) (by omega)).trans ra
  have n76o : ∀ x, x ≠ p → M9 476 x = M 476 x := fun x hx => ((nA _ _ (by omega) (by omega) (by omega) (by omega)).trans (rj2 x hx)).trans (lM _ _ (by omega) (by omega) (by unfold LYf; omega) (by omega))
  have nr : ∀ o k, 481 ≤ o → o ≤ 487 ∨ o = 496 → M9 o k = M o k := fun o k a b => nC _ _ (by omega) (by omega) (by omega) (by omega) (by omega) (by omega) (by unfold LYf; omega)
  have n74 : ∀ k, M9 474 k = M 474 k := fun k => nC _ _ (by omega) (by omega) (by omega) (by omega) (by omega) (by omega) (by unfold LYf; omega)
  have n75 : ∀ k, M9 475 k = M 475 k := fun k => nC _ _ (by omega) (by omega) (by omega) (by omega) (by omega) (by omega) (by unfold LYf; omega)
  have hb34 := h.bal.2.2.2.2.1
  have n34 : M2r 468 34 = M 468 34 := (rj1 468 34 (by omega) (by omega)).trans (lM 468 34 (by omega) (by omega) (by unfold LYf; omega) (by omega))
  obtain ⟨tr9, qn9⟩ := qs_fFo (sol := fun u => Sol M2r u p) (p := p) (T := M 468 17) x3 p0 (by omega) (by omega) (by omega)
  have hRB9 : RB M9 := RB.moved rI2 bmv tr9 (by omega)
  have hCR9 : CR M9 := jC.fin (fun o k ho => mB o k (by omega) (by omega))
  have hDK9 : DKs M9 := jD.fin jC (fun o k ho => mB o k (by omega) (by omega))
  have hCNS9 : CNS M9 := by
    refine ⟨⟨?_, ?_, ?_⟩, ?_⟩
    · rw [mC 0 10 (by omega) (by omega) (jlo _ _ (by omega)), e10, n9]
    · rw [mC 0 11 (by omega) (by omega) (jlo _ _ (by omega)), e11, n17]
    · rw [mC 0 12 (by omega) (by omega) (jlo _ _ (by omega)), e12, n18]
    · rw [mD 0 13 (by omega) (by omega) (jlo _ _ (by omega)) (by omega) (by omega), n36]
      rcases k4 with ⟨y1, y2, y3⟩ | y
      · exact Or.inl ⟨y1, y2, fun r r0 r1 => by rw [nr 496 r (by omega) (by omega)]; exact y3 r r0 r1⟩
      · exact Or.inr y
  have hTY9 : TY M9 := by
    have u1 : ∀ o k, 1 ≤ o → o ≤ 7 → M9 o k = M o k := fun o k a b => mD o k (by omega) (by omega) (jlo _ _ (by omega)) (by omega) (by omega)
    have u2 : ∀ o k, (o = 468 ∧ (k = 1 ∨ k = 5 ∨ k = 6)) ∨ (469 ≤ o ∧ o ≤ 473) → M9 o k = M o k := fun o k a => nC _ _ (by omega) (by omega) (by omega) (by omega) (by omega) (by omega) (by unfold LYf; omega)
    unfold TY
    simp (disch := omega) only [u1 _ _, u2 _ _]
    exact h.ty
  have hPRB9 : PRB M9 := by
    intro x y0 y1
    have y := h.prb x y0 y1
    by_cases w : x = p
    · subst w
      rw [mC _ 3 (by omega) (by omega) (jlo _ _ (by omega)), c2, n76p, n74, n75, n9, mD _ 1 (by omega) (by omega) (jlo _ _ (by omega)) (by omega) (by omega), mD _ 2 (by omega) (by omega) (jlo _ _ (by omega)) (by omega) (by omega)]
      exact ⟨rfl, y.2.1, fun u => by omega⟩
    · rw [mD _ 3 (by omega) (by omega) (jlo _ _ (by omega)) (by omega) (by omega), n76o x w, n74, n75, n9, mD _ 1 (by omega) (by omega) (jlo _ _ (by omega)) (by omega) (by omega), mD _ 2 (by omega) (by omega) (jlo _ _ (by omega)) (by omega) (by omega)]
      exact y
  obtain ⟨⟨ty1, ty2, ty3⟩, ty4, ty5, ty6⟩ := h.ty
  have old : ∀ x u, 0 ≤ x → x < M 468 9 → 0 ≤ u → u < M9 476 x → ¬ (x = p ∧ u = t) → u < M 476 x ∧ u < 6 := fun x u y0 y1 u0 u1 hno => by
    have y := h.rb.prob x y0 y1
    by_cases w : x = p
    · subst w
      rw [n76p] at u1
      omega
    · rw [n76o x w] at u1
      omega
  have hTST9 : TST M9 := by
    intro x u y0 y1 u0 u1
    rw [n9] at y1
    by_cases w : x = p ∧ u = t
    · obtain ⟨rfl, rfl⟩ := w
      have z8 : M9 478 (6 * x + u) = M 468 5 := by
        rw [nB _ _ (by omega) (by omega) (by omega) (by omega) (by omega) (by omega), ly1, up_k (by omega), hh _ _ (by omega) (by omega) (by omega)]
      have z0 : M9 480 (6 * x + u) = M 468 6 := by
        rw [nB _ _ (by omega) (by omega) (by omega) (by omega) (by omega) (by omega), ly2, up_k (by omega), hh _ _ (by omega) (by omega) (by omega)]
      refine ⟨?_, ?_, fun k k0 k1 => ?_, fun k k0 k1 => ?_⟩
      · rw [mC _ _ (by omega) (by omega) (jlo _ _ (by omega)), c3, z8]; exact ty2
      · rw [mC _ _ (by omega) (by omega) (jlo _ _ (by omega)), c4, z0]; exact ty3
      · rw [z8] at k1
        rw [mC _ _ (by omega) (by omega) (jlo _ _ (by omega)), c5 k k0 (by omega), nB _ _ (by omega) (by omega) (by omega) (by omega) (by omega) (by omega), ly3 k k0 (by rw [up_k (by omega), hh _ _ (by omega) (by omega) (by omega)]; exact k1), up_o (by omega), hh _ _ (by omega) (by omega) (by omega)]
        exact ty5 k k0 k1
      · rw [z0] at k1
        rw [mC _ _ (by omega) (by omega) (jlo _ _ (by omega)), c6 k k0 (by omega), nB _ _ (by omega) (by omega) (by omega) (by omega) (by omega) (by omega), ly4 k k0 (by rw [up_k (by omega), hh _ _ (by omega) (by omega) (by omega)]; exact k1), up_o (by omega), hh _ _ (by omega) (by omega) (by omega)]
        exact ty6 k k0 k1
    · obtain ⟨g1, g2⟩ := old x u y0 y1 u0 u1 w
      have it := h.rb.tst x u y0 y1 u0 g1
      refine (h.tst x u y0 y1 u0 g1).fin2 (fun o k a b => mD _ _ (by omega) (by omega) (jlo _ _ (by omega)) (nu_dis u0 g2 t0 t1 w ⟨a, b⟩) (fun y => nu_ne (p := x) (q := p) (t := u) u0 g2 ⟨by omega, by omega⟩)) ?_ ?_ (fun k k0 k1 => ?_) (fun k k0 k1 => ?_)
      all_goals exact nC _ _ (by omega) (by omega) (by omega) (by omega) (by omega) (by omega) (by unfold LYf; omega)
  have hRNS9 : RNS M9 := by
    intro r r0 r1
    rw [n18] at r1
    obtain ⟨⟨y1, y2, y3⟩, y4, ⟨y5, y6⟩, y7, y8⟩ := h.rns r r0 r1
    have ir := h.run r0 r1
    have irr := h.rb.run r r0 r1
    have g4 : ∀ k, k < 8 → M9 (8 * r + 148) k = M (8 * r + 148) k := fun k hk => mD _ _ (by omega) (by omega) (jf r k r0 hk) (by omega) (by omega)
    have gp : ∀ o k, 8 * r + 149 ≤ o → o ≤ 8 * r + 152 → M9 o k = M o k := fun o k a b => mD _ _ (by omega) (by omega) (jp r o k r0 a b) (by omega) (by omega)
    have h82 : M9 482 r = M 482 r := nr 482 r (by omega) (by omega)
    refine ⟨⟨by rw [g4 4 (by omega), nr 481 r (by omega) (by omega)]; exact y1, by rw [g4 5 (by omega), h82]; exact y2, by rw [g4 6 (by omega), nr 483 r (by omega) (by omega)]; exact y3⟩, ?_, ⟨?_, fun k a0 a1 => ?_⟩, ?_, fun u u0 u1 => ?_⟩
    · rw [g4 7 (by omega), Pnd.fine n36 (nr 483 r (by omega) (by omega)) (nr 496 r (by omega) (by omega))]; exact y4
    · rw [gp _ _ (by omega) (by omega), nr 484 r (by omega) (by omega)]; exact y5
    · rw [nr 484 r (by omega) (by omega)] at a1
      rw [gp (8 * r + 150) k (by omega) (by omega), gp (8 * r + 151) k (by omega) (by omega), gp (8 * r + 152) k (by omega) (by omega), nr 485 _ (by omega) (by omega), nr 486 _ (by omega) (by omega), nr 487 _ (by omega) (by omega)]
      exact y6 k a0 a1
    · rw [g4 5 (by omega), y2]
      by_cases w : M 482 r = p
      · have a1 := (jn3 r r0 (by rw [e12]; exact r1) (by rw [f5 r r0 r1]; exact w)).2
        rw [w, mC _ 3 (by omega) (by omega) (jlo _ _ (by omega))]
        unfold JNc at a1 ⊢
        rw [mB _ 8 (by omega) (by omega), mB _ 9 (by omega) (by omega), show (fun x => M9 (8 * r + 153) x) = (fun x => M1c (8 * r + 153) x) from funext fun x => mB _ _ (by omega) (by omega), show (fun x => M9 (8 * r + 153) x ≠ 111) = (fun x => M1c (8 * r + 153) x ≠ 111) from funext fun x => by rw [mB _ _ (by omega) (by omega)]]
        exact a1
      · have a1 := jn5 r r0 (by rw [e12]; exact r1) (fun x => w (by rw [← f5 r r0 r1]; exact x.2))
        have a2 : ∀ x, M9 (8 * r + 153) x = M (8 * r + 153) x := fun x => mD _ _ (by omega) (by omega) (js r _ x r0 (by omega) (by omega) (by omega) (fun y => w y.2.1)) (by omega) (by omega)
        rw [y2] at y7
        unfold JNc at y7 ⊢
        rw [mD _ 3 (by omega) (by omega) (jlo _ _ (by omega)) (by omega) (by omega), mB _ 8 (by omega) (by omega), mB _ 9 (by omega) (by omega), a1.1, a1.2, c1 _ 8 (by omega) (by omega), c1 _ 9 (by omega) (by omega), show (fun x => M9 (8 * r + 153) x) = (fun x => M (8 * r + 153) x) from funext a2, show (fun x => M9 (8 * r + 153) x ≠ 111) = (fun x => M (8 * r + 153) x ≠ 111) from funext fun x => by rw [a2]]
        exact y7
    · rw [h82] at u1
      by_cases w : M 482 r = p ∧ u = t
      · obtain ⟨w1, rfl⟩ := w
        have hR1 := rj4 r r0 r1 (by rw [lM _ _ (by omega) (by omega) (by unfold LYf; omega) (by omega)]; exact w1)
        have hR2 : RES M9 r u M2r := RES.of (fun o k ho => (nB o k (by omega) (by omega) (by omega) (by omega) (by omega) (by omega)).symm) hR1
        exact SAM.res ⟨nA _ _ (by omega) (by omega) (by omega) (by omega), nA _ _ (by omega) (by omega) (by omega) (by omega), nA _ _ (by omega) (by omega) (by omega) (by omega), fun k _ _ => nA _ _ (by omega) (by omega) (by omega) (by omega)⟩ hR2
      · obtain ⟨g1, g2⟩ := old _ u ir.2.1.1 ir.2.1.2 u0 u1 w
        have it := h.rb.tst _ u ir.2.1.1 ir.2.1.2 u0 g1
        have hS : SAM M M9 r u := by
          have s1 := rj3 r u r0 u0 g2 (fun x => w ⟨by rw [← lM 482 r (by omega) (by omega) (by unfold LYf; omega) (by omega)]; exact x.2.1, x.2.2⟩)
          obtain ⟨s1, s2, s3, s4⟩ := s1
          have l8 : ∀ o k, 488 ≤ o → o ≤ 491 → M1 o k = M o k := fun o k a b => lM o k (by omega) (by omega) (by unfold LYf; omega) (by omega)
          have k8 : ∀ o k, 488 ≤ o → o ≤ 491 → M9 o k = M2r o k := fun o k a b => nA o k (by omega) (by omega) (by omega) (by omega)
          refine ⟨?_, ?_, ?_, fun k k0 k1 => ?_⟩
          · rw [k8 _ _ (by omega) (by omega), s1, l8 _ _ (by omega) (by omega)]
          · rw [k8 _ _ (by omega) (by omega), s2, l8 _ _ (by omega) (by omega)]
          · rw [k8 _ _ (by omega) (by omega), s3, l8 _ _ (by omega) (by omega)]
          · rw [k8 _ _ (by omega) (by omega), s4 k k0 k1, l8 _ _ (by omega) (by omega)]
        have hJR : JR M9 r u = JR M r u := by
          refine JR.cg h82 it.1 irr.2.2.2.2.2.2.1 (nr _ _ (by omega) (by omega)) (fun k k0 k1 => ⟨⟨nr _ _ (by omega) (by omega), nr _ _ (by omega) (by omega), nr _ _ (by omega) (by omega)⟩, h.rb.prg r k r0 r1 k0 k1⟩) (n75 _) ?_ (fun k k0 k1 => ?_)
          all_goals exact nC _ _ (by omega) (by omega) (by omega) (by omega) (by omega) (by omega) (by unfold LYf; omega)
        refine (y8 u u0 g1).fin2 hJR h82 (n75 _) ?_ (fun k k0 k1 => ?_) hS
        all_goals exact nC _ _ (by omega) (by omega) (by omega) (by omega) (by omega) (by omega) (by unfold LYf; omega)
  have hCOR : COR M9 := ⟨hRB9, hCR9, hDK9, hCNS9, hPRB9, hTST9, hRNS9⟩
  have vzE : ∀ r, vz M9 r = vz M2r r := fun r => by
    unfold vz fz
    have u : ∀ o k, o = 476 ∨ o = 482 ∨ o = 488 → M9 o k = M2r o k := fun o k ho => nA o k (by omega) (by omega) (by omega) (by omega)
    simp (disch := omega) only [u _ _]
  have vzW : ∀ r, vz (up Mc 497 0 v) r = vz M r := fun r => by
    unfold vz fz
    simp (disch := omega) only [hh _ _]
  have hz : z = zr := by
    rw [jz, rz, e12]
    refine cnt_congr (by omega) (fun r r0 r1 => ?_)
    have v9 := (hCOR.ver r0 (by rw [n18]; exact r1)).1
    rw [mB _ 8 (by omega) (by omega)] at v9
    rw [f5 r r0 r1, hh 482 r (by omega) (by omega) (by omega), v9, vzE, c1 _ 8 (by omega) (by omega), (h.ver r0 r1).1, vzW]
  have hB9 : ∀ o, o = 27 ∨ o = 34 → ∀ b, BOK Mc o b → BOK M9 o b := fun o ho b hb => hb.lo (jC.fin (fun a k ha => jF a k (by omega))) ho (fun o k a => mA o k (by omega))
  have sol9 : ∀ u x, Sol M9 u x ↔ Sol M2r u x := fun u x => Sol.fine (nA _ _ (by omega) (by omega) (by omega) (by omega)) (fun r r0 r1 => ⟨nA _ _ (by omega) (by omega) (by omega) (by omega), nA _ _ (by omega) (by omega) (by omega) (by omega), Acc.fine (nA _ _ (by omega) (by omega) (by omega) (by omega)) (nA _ _ (by omega) (by omega) (by omega) (by omega)) (fun k => nA _ _ (by omega) (by omega) (by omega) (by omega))⟩)
  have ra9 : RAb M9 (M 474 p) (fFo (fun u => Sol M2r u p) p (M 468 17) (bM M q (M 474 p))) := by
    have a1 := jRA.cong (M' := M9) (by rw [c1 _ 1 (by omega) (by omega)]; omega) (by rw [c1 _ 1 (by omega) (by omega)]; omega) (fun o k ho => mA o k (by omega))
    rw [c1 _ 1 (by omega) (by omega), hcol.1, e11, fFo_congr (s2 := fun u => Sol M2r u p) (by omega) (fun u u0 u1 => ?_)] at a1
    · exact a1
    · rw [← mA 29 _ (by omega)]
      have := hCOR.s29 (hB9 27 (by omega) 0 jB0) (t := u) (p := p) u0 (by rw [hCNS9.1.2.1, n17]; omega) p0 (by omega)
      rw [show (27 : Int) + 2 = 29 by omega] at this
      exact this.trans (sol9 u p)
  refine ⟨hz, ?_, _, ⟨hRB9, hCR9, jn2.fin (fun o k a b => mB o k (by omega) (by omega)) (fun r k r0 r1 => mB _ k (by omega) (by omega)), hDK9⟩, ⟨hB9 _ (by omega) _ jB0, hB9 _ (by omega) _ jB1⟩, ⟨hCNS9, hTY9, hPRB9, hTST9, hRNS9, fun r u r0 r1 u0 u1 w => ?_⟩, h.bal.move (δ := 0) (by omega) (by omega) (c := M 474 p) (by omega) (by omega) (fun o k a b d e f g => ?_) n17 n9 n74 (fun o k ho hcp => ?_) (fun k hk => ?_) ra9 bB ?_ qn9 tr9 NSL.fFo (by omega) (by omega) (fun u x u0 u1 y0 y1 => ?_)⟩
  · rw [nB 468 0 (by omega) (by omega) (by omega) (by omega) (by omega) (by omega), ly5 468 0 (by unfold LYf; omega), up_s]
  · rw [n18, nr 482 r (by omega) (by omega)] at w
    have hno : ¬ (r < M 468 18 ∧ M 482 r = p ∧ u = t) := fun y => w ⟨y.1, by rw [y.2.1, n76p]; omega⟩
    rw [mD _ u (by omega) (by omega) (js r _ u r0 r1 (by omega) (by omega) hno) (by omega) (by omega)]
    refine h.slt r u r0 r1 u0 u1 (fun y => w ⟨y.1, ?_⟩)
    by_cases w2 : M 482 r = p
    · rw [w2, n76p]; have := y.2; rw [w2] at this; omega
    · rw [n76o _ w2]; exact y.2
  · rw [mA o k (by omega), jfr o k a b d (by rw [c1 _ 1 (by omega) (by omega), hcol.1]; exact e) (by rw [c1 _ 1 (by omega) (by omega), hcol.1]; exact f) g, c1 o k (by omega) (by omega)]
  · have hcp2 : ¬ CP M2r (M 474 p) k := fun y => hcp (by
      unfold CP at y ⊢
      rw [rj1 468 17 (by omega) (by omega), rj1 468 9 (by omega) (by omega), rj1 474 _ (by omega) (by omega), lM 468 17 (by omega) (by omega) (by unfold LYf; omega) (by omega), lM 468 9 (by omega) (by omega) (by unfold LYf; omega) (by omega), lM 474 _ (by omega) (by omega) (by unfold LYf; omega) (by omega)] at y
      exact y)
    rw [bF o k (fun y => hcp2 y.2) (by omega) (by omega), rj1 o k (by omega) (by omega), lM o k (by omega) (by omega) (by unfold LYf; omega) (by omega)]
  · rw [bF 495 k (by omega) (by omega) (by omega), rj1 495 k (by omega) (by omega), lM 495 k (by omega) (by omega) (by unfold LYf; omega) (by omega)]
  · have a1 := ((h.ab (c := M 474 p) (by omega) (by omega)).ffo (sol := fun u => Sol M2r u p) (p := p) (T := M 468 17) x3.1 p0 (by omega) (by omega) (by omega) (fun u u0 u1 => ⟨by omega, by omega, by omega, by rw [show (5 * u + p) % 5 = p by omega]⟩)).1
    rw [Int.add_zero]
    exact a1.mono (by omega)
  · rw [ra9.1 _ (by omega) (by omega), sol9]
    by_cases w : x = p
    · subst w
      exact fFo_45 (x3.mono (by omega)) y0 (by omega) (by omega) (by omega) u0 u1 (Or.inr trivial)
    · rw [Ne, fFo_o x3 p0 (by omega) (by omega) (by omega) (by omega), bM1 (by omega) (by omega)]
      refine (h.bal.2.2.2.1 u x u0 u1 y0 y1).trans ?_
      have hA : ∀ r, 0 ≤ r → r < M 468 18 → M 482 r = x → (Acc M2r r ↔ Acc M r) := fun r r0 r1 hx => by
        have ir := h.run r0 r1
        have e82 : M2r 482 r = M 482 r := (rj1 482 r (by omega) (by omega)).trans (lM 482 r (by omega) (by omega) (by unfold LYf; omega) (by omega))
        have e76 : M2r 476 (M 482 r) = M 476 (M 482 r) := (rj2 _ (by omega)).trans (lM 476 _ (by omega) (by omega) (by unfold LYf; omega) (by omega))
        unfold Acc
        rw [e82, e76]
        constructor
        · intro y s s0 s1
          have s := rj3 r s r0 s0 (by omega) (fun y => w (by rw [← hx, ← lM 482 r (by omega) (by omega) (by unfold LYf; omega) (by omega)]; exact y.2.1))
          rw [← lM 488 _ (by omega) (by omega) (by unfold LYf; omega) (by omega), ← s.1]
          exact y _ s0 s1
        · intro y s s0 s1
          have s := rj3 r s r0 s0 (by omega) (fun y => w (by rw [← hx, ← lM 482 r (by omega) (by omega) (by unfold LYf; omega) (by omega)]; exact y.2.1))
          rw [s.1, lM 488 _ (by omega) (by omega) (by unfold LYf; omega) (by omega)]
          exact y _ s0 s1
      have e18 : M2r 468 18 = M 468 18 := (rj1 468 18 (by omega) (by omega)).trans (lM 468 18 (by omega) (by omega) (by unfold LYf; omega) (by omega))
      have e82 : ∀ r, M2r 482 r = M 482 r := fun r => (rj1 482 r (by omega) (by omega)).trans (lM 482 r (by omega) (by omega) (by unfold LYf; omega) (by omega))
      have e81 : ∀ r, M2r 481 r = M 481 r := fun r => (rj1 481 r (by omega) (by omega)).trans (lM 481 r (by omega) (by omega) (by unfold LYf; omega) (by omega))
      unfold Sol
      rw [e18]
      constructor
      · rintro ⟨r, r0, r1, d1, d2, d3⟩
        exact ⟨r, r0, r1, (e81 r).trans d1, (e82 r).trans d2, (hA r r0 r1 d2).mpr d3⟩
      · rintro ⟨r, r0, r1, d1, d2, d3⟩
        rw [e81] at d1
        rw [e82] at d2
        exact ⟨r, r0, r1, d1, d2, (hA r r0 r1 d2).mp d3⟩
theorem s_test {n : Int} {q : Int → List Int} {M : Mem} (h : JJn n q M) (hn : 0 ≤ n ∧ n ≤ 512) (p : Int) (hp : rg p) {kw : Int} {Mw : Mem} (hw : (kw = 0 ∧ ∃ z Mc, (((0 ≤ p ∧ p < M 0 10) ∧ M (20 * p + 48) 3 < 6) ∧ ∃ M2, CPY M p (M (20 * p + 48) 3) (M (20 * p + 48) 3 + 1) M2 ∧ JAW M2 p (M (20 * p + 48) 3) (bM M q (M (20 * p + 48) 1)) z Mc) ∧ Mw = up Mc 497 0 (wr z)) ∨ (kw = 1 ∧ (p < 0 ∨ M 0 10 ≤ p) ∧ Mw = M) ∨ (kw = 2 ∧ ((0 ≤ p ∧ p < M 0 10) ∧ M (20 * p + 48) 3 = 6) ∧ Mw = M)) : HI M Mw ∧ ∀ (zr : Int) (M9 : Mem), (((p < 0 ∨ Mw 468 9 ≤ p) ∧ M9 = up Mw 468 0 1) ∨ (((0 ≤ p ∧ p < Mw 468 9) ∧ Mw 476 p = 6) ∧ M9 = up Mw 468 0 2) ∨ (((0 ≤ p ∧ p < Mw 468 9) ∧ Mw 476 p < 6) ∧ TSP Mw p (Mw 476 p) (Mw 476 p + 1) (bM M q (Mw 474 p)) zr M9)) → M9 468 0 = kw ∧ (kw = 0 → Mw 497 0 = wr zr) ∧ ∃ q2, JJn (n + 1) q2 M9 := by
  have i0 := h.rb.rng
  have c0 := h.cns.1
  rcases hw with ⟨hk, z, Mc, ⟨hp9, M2c, hC, hJ⟩, hMw⟩ | ⟨hk, hS, hMw⟩ | ⟨hk, ⟨hS, h20⟩, hMw⟩
  · have e0 := hMw.symm
    subst e0
    have e3 := h.prb p (by omega) (by omega)
    have ec := e3.2.1 (by omega)
    have ip := h.rb.prob p (by omega) (by omega)
    rw [e3.1] at hC hp9
    rw [ec.1] at hJ
    rw [e3.1] at hJ
    have hh : HI M (up Mc 497 0 (wr z)) := fun o k a b d => by rw [up_o (by omega), jaw_hi (by omega) (by omega) (by omega) (by omega) (by omega) hC hJ a]
    refine ⟨hh, fun zr M9 hr => ?_⟩
    rw [hh 468 9 (by omega) (by omega) (by omega), hh 476 p (by omega) (by omega) (by omega), hh 474 p (by omega) (by omega) (by omega)] at hr
    rcases hr with ⟨g, -⟩ | ⟨⟨-, g⟩, -⟩ | ⟨-, g3⟩
    · omega
    · omega
    · obtain ⟨y1, y2, q2, y3⟩ := h.jdg hn (by omega) (by omega) (by omega) (by omega) (Or.inl ⟨rfl, rfl⟩) hC hJ g3
      exact ⟨y2.trans hk.symm, fun _ => by rw [up_s, y1], q2, y3⟩
  · have e0 := hMw.symm
    subst e0
    refine ⟨fun _ _ _ _ _ => rfl, fun zr M9 hr => ?_⟩
    rcases hr with ⟨g, rfl⟩ | ⟨⟨g, -⟩, -⟩ | ⟨⟨g, -⟩, -⟩
    · exact ⟨by rw [up_s]; omega, fun w => by omega, q, h.code _⟩
    · omega
    · omega
  · have e0 := hMw.symm
    subst e0
    have e3 := (h.prb p (by omega) (by omega)).1
    refine ⟨fun _ _ _ _ _ => rfl, fun zr M9 hr => ?_⟩
    rcases hr with ⟨g, -⟩ | ⟨⟨g, -⟩, rfl⟩ | ⟨⟨g, g1⟩, -⟩
    · omega
    · exact ⟨by rw [up_s]; omega, fun w => by omega, q, h.code _⟩
    · omega
theorem s_fix {n : Int} {q : Int → List Int} {M : Mem} (h : JJn n q M) (hn : 0 ≤ n ∧ n ≤ 512) (p t : Int) (hp : rg p) (ht : rg t) {kw : Int} {Mw : Mem} (hw : (kw = 0 ∧ ∃ z Mc, (((0 ≤ p ∧ p < M 0 10) ∧ 0 ≤ t ∧ t < M (20 * p + 48) 3) ∧ ∃ M2, CPY M p t (M (20 * p + 48) 3) M2 ∧ JAW M2 p t (bM M q (M (20 * p + 48) 1)) z Mc) ∧ Mw = up Mc 497 0 (wr z)) ∨ (kw = 1 ∧ (¬ ((0 ≤ p ∧ p < M 0 10) ∧ 0 ≤ t ∧ t < M (20 * p + 48) 3)) ∧ Mw = M)) : HI M Mw ∧ ∀ (zr : Int) (M9 : Mem), ((¬ ((0 ≤ p ∧ p < Mw 468 9) ∧ 0 ≤ t ∧ t < Mw 476 p) ∧ M9 = up Mw 468 0 1) ∨ (((0 ≤ p ∧ p < Mw 468 9) ∧ 0 ≤ t ∧ t < Mw 476 p) ∧ TSP Mw p t (Mw 476 p) (bM M q (Mw 474 p)) zr M9)) → M9 468 0 = kw ∧ (kw = 0 → Mw 497 0 = wr zr) ∧ ∃ q2, JJn (n + 1) q2 M9 := by
  have i0 := h.rb.rng
  have c0 := h.cns.1
  rcases hw with ⟨hk, z, Mc, ⟨hp9, M2c, hC, hJ⟩, hMw⟩ | ⟨hk, hS, hMw⟩
  · have e0 := hMw.symm
    subst e0
    have e3 := h.prb p (by omega) (by omega)
    have ec := e3.2.1 (by omega)
    have ip := h.rb.prob p (by omega) (by omega)
    rw [e3.1] at hC hp9
    rw [ec.1] at hJ
    have hh : HI M (up Mc 497 0 (wr z)) := fun o k a b d => by rw [up_o (by omega), jaw_hi (by omega) (by omega) (by omega) (by omega) (by omega) hC hJ a]
    refine ⟨hh, fun zr M9 hr => ?_⟩
    rw [hh 468 9 (by omega) (by omega) (by omega), hh 476 p (by omega) (by omega) (by omega), hh 474 p (by omega) (by omega) (by omega)] at hr
    rcases hr with ⟨g, -⟩ | ⟨-, g3⟩
    · omega
    · obtain ⟨y1, y2, q2, y3⟩ := h.jdg hn (by omega) (by omega) (by omega) (by omega) (Or.inr ⟨by omega, rfl⟩) hC hJ g3
      exact ⟨y2.trans hk.symm, fun _ => by rw [up_s, y1], q2, y3⟩
  · have e0 := hMw.symm
    subst e0
    refine ⟨fun _ _ _ _ _ => rfl, fun zr M9 hr => ?_⟩
    rcases hr with ⟨g, rfl⟩ | ⟨g, -⟩
    · exact ⟨by rw [up_s]; omega, fun w => by omega, q, h.code _⟩
    · have e3 := (h.prb p (by omega) (by omega)).1
      omega
