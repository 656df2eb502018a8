theorem CR.fin {M M' : Mem} (C : CR M) (e : ∀ a k, a = 0 ∨ (48 ≤ a ∧ a < 468) → M' a k = M a k) : CR M' := by
  have c0 := C.1
  obtain ⟨c1, c2, c3⟩ := C
  refine ⟨?_, fun r r0 r1 => ?_, fun p p0 p1 => ?_⟩
  · rw [e 0 10 (by omega), e 0 11 (by omega), e 0 12 (by omega), e 0 13 (by omega)]; exact c1
  · rw [e 0 12 (by omega)] at r1
    rw [e 0 10 (by omega), e 0 11 (by omega), e _ 4 (by omega), e _ 5 (by omega), e _ 6 (by omega), e _ 7 (by omega), e _ 8 (by omega), e _ 9 (by omega)]
    exact c2 r r0 r1
  · rw [e 0 10 (by omega)] at p1
    rw [e _ 1 (by omega), e _ 2 (by omega), e _ 3 (by omega)]
    exact c3 p p0 p1
section HIC
variable {M M' : Mem}
theorem PIn.hi (f : HI M M') (t : Int) : PIn M' t = PIn M t := by
  unfold PIn pnd Pnd
  simp (disch := omega) only [f _ _]
theorem fstR.hi (f : HI M M') (b t p n : Int) : fstR M' b t p n = fstR M b t p n := by
  unfold fstR Vis Pnd Acc
  simp (disch := omega) only [f _ _]
theorem penR.hi (f : HI M M') (b t p n : Int) : penR M' b t p n = penR M b t p n := by
  unfold penR
  rw [fstR.hi f]
  unfold Vis Pnd
  simp (disch := omega) only [f _ _]
theorem sol1.hi (f : HI M M') (b t p n : Int) : sol1 M' b t p n = sol1 M b t p n := by unfold sol1; rw [fstR.hi f]
theorem latN.hi (f : HI M M') (b t n : Int) (k : Nat) : latN M' b t n k = latN M b t n k := by
  induction k with
  | zero => rfl
  | succ k ih =>
    simp only [latN, ih, fstR.hi f]
    rw [f 483 _ (by omega) (by omega) (by omega)]
theorem Ahd.hi (f : HI M M') (b x y : Int) : Ahd M' b x y ↔ Ahd M b x y := by
  unfold Ahd solR penS latR
  simp only [sol1.hi f, penR.hi f, latN.hi f]
  rw [f 468 9 (by omega) (by omega) (by omega), f 468 18 (by omega) (by omega) (by omega)]
end HIC
theorem s_problem {n : Int} {q : Int → List Int} {M : Mem} (h : JJn n q M) (hn : 0 ≤ n ∧ n ≤ 512) (c l : Int) (hc : rg c) (hl : rg l) {kw : Int} {Mw : Mem} (hw : (kw = 0 ∧ ∃ z Mc, (((0 ≤ c ∧ c ≤ 3) ∧ 1 ≤ l ∧ l ≤ 400) ∧ M 0 10 < 5 ∧ z = M 0 10 ∧ Mc = up (up (up M (20 * M 0 10 + 48) 1 c) (20 * M 0 10 + 48) 2 l) 0 10 (M 0 10 + 1)) ∧ Mw = up Mc 497 0 (wr z)) ∨ (kw = 1 ∧ (¬ ((0 ≤ c ∧ c ≤ 3) ∧ 1 ≤ l ∧ l ≤ 400)) ∧ Mw = M) ∨ (kw = 2 ∧ (((0 ≤ c ∧ c ≤ 3) ∧ 1 ≤ l ∧ l ≤ 400) ∧ M 0 10 = 5) ∧ Mw = M)) : HI M Mw ∧ ∀ (zr : Int) (M9 : Mem), ((¬ ((0 ≤ c ∧ c ≤ 3) ∧ 1 ≤ l ∧ l ≤ 400) ∧ M9 = up Mw 468 0 1) ∨ ((((0 ≤ c ∧ c ≤ 3) ∧ 1 ≤ l ∧ l ≤ 400) ∧ Mw 468 9 = 5) ∧ M9 = up Mw 468 0 2) ∨ ((((0 ≤ c ∧ c ≤ 3) ∧ 1 ≤ l ∧ l ≤ 400) ∧ Mw 468 9 < 5 ∧ zr = Mw 468 9) ∧ M9 = up (up (up (up Mw 468 0 0) 474 (Mw 468 9) c) 475 (Mw 468 9) l) 468 9 (Mw 468 9 + 1))) → M9 468 0 = kw ∧ (kw = 0 → Mw 497 0 = wr zr) ∧ ∃ q2, JJn (n + 1) q2 M9 := by
  have i0 := h.rb.rng
  obtain ⟨⟨c1, c2, c3⟩, c4⟩ := h.cns
  rcases hw with ⟨hk, z, Mc, ⟨hS, hl1, hz, hMc⟩, hMw⟩ | ⟨hk, hS, hMw⟩ | ⟨hk, ⟨hS, h20⟩, hMw⟩
  · rw [c1] at hMc hz hl1
    have e0 := hMc.symm
    subst e0
    have e0 := hMw.symm
    subst e0
    refine ⟨fun o k a b d => by simp (disch := omega) only [up_o], ?_⟩
    intro zr M2 hr
    simp (disch := omega) only [up_o] at hr
    rcases hr with ⟨g, -⟩ | ⟨⟨-, g⟩, -⟩ | ⟨⟨-, g1, g2⟩, rfl⟩
    · exact absurd hS g
    · omega
    · refine ⟨by simp (disch := omega) only [up_s, up_o, up_k] <;> omega, fun _ => by rw [up_s, hz, g2], q, ?_⟩
      exact h.addp hS.1 hS.2 g1 (fun o k a b d => by simp (disch := omega) only [up_n]) (by simp (disch := omega) only [up_s, up_o, up_k]) (by simp (disch := omega) only [up_s, up_o, up_k]) (by simp (disch := omega) only [up_s, up_o, up_k]) (fun o k a b d e => by simp (disch := omega) only [up_n]) (by simp (disch := omega) only [up_s, up_o, up_k]) (by simp (disch := omega) only [up_s, up_o, up_k]) (by simp (disch := omega) only [up_s, up_o, up_k])
  · have e0 := hMw.symm
    subst e0
    refine ⟨fun _ _ _ _ _ => rfl, fun zr M2 hr => ?_⟩
    rcases hr with ⟨g, rfl⟩ | ⟨⟨g, -⟩, -⟩ | ⟨⟨g, -⟩, -⟩
    · exact ⟨by rw [up_s]; omega, fun w => by omega, q, h.code _⟩
    · exact absurd g hS
    · exact absurd g hS
  · have e0 := hMw.symm
    subst e0
    refine ⟨fun _ _ _ _ _ => rfl, fun zr M2 hr => ?_⟩
    rcases hr with ⟨g, -⟩ | ⟨⟨g, -⟩, rfl⟩ | ⟨⟨g, g1, -⟩, -⟩
    · exact absurd hS g
    · exact ⟨by rw [up_s]; omega, fun w => by omega, q, h.code _⟩
    · omega
theorem s_team {n : Int} {q : Int → List Int} {M : Mem} (h : JJn n q M) (hn : 0 ≤ n ∧ n ≤ 512)  {kw : Int} {Mw : Mem} (hw : (kw = 0 ∧ ∃ z Mc, (M 0 11 < 8 ∧ z = M 0 11 ∧ (∀ a k, ¬ (27 ≤ a ∧ a ≤ 40) → Mc a k = up M 0 11 (M 0 11 + 1) a k) ∧ BOK Mc 27 0 ∧ BOK Mc 34 1) ∧ Mw = up Mc 497 0 (wr z)) ∨ (kw = 1 ∧ (M 0 11 = 8) ∧ Mw = M)) : HI M Mw ∧ ∀ (zr : Int) (M9 : Mem), ((Mw 468 17 = 8 ∧ M9 = up Mw 468 0 1) ∨ (Mw 468 17 < 8 ∧ zr = Mw 468 17 ∧ M9 468 0 = 0 ∧ M9 468 17 = Mw 468 17 + 1 ∧ (∀ k, 5 * Mw 468 17 ≤ k → k < 5 * Mw 468 17 + 5 → M9 493 k = 45) ∧ ∀ o k, ¬ (o = 493 ∧ 5 * Mw 468 17 ≤ k ∧ k < 5 * Mw 468 17 + 5) → ¬ (o = 468 ∧ (k = 0 ∨ k = 17)) → M9 o k = Mw o k)) → M9 468 0 = kw ∧ (kw = 0 → Mw 497 0 = wr zr) ∧ ∃ q2, JJn (n + 1) q2 M9 := by
  have i0 := h.rb.rng
  obtain ⟨⟨c1, c2, c3⟩, c4⟩ := h.cns
  rcases hw with ⟨hk, z, Mc, ⟨h8, hz, he, hb0, hb1⟩, hMw⟩ | ⟨hk, hS, hMw⟩
  · have e0 := hMw.symm
    subst e0
    have hh : HI M (up Mc 497 0 (wr z)) := fun o k a b d => by rw [up_o (by omega), he o k (by omega), up_o (by omega)]
    refine ⟨hh, ?_⟩
    intro zr M2 hr
    rw [hh 468 17 (by omega) (by omega) (by omega)] at hr
    rcases hr with ⟨g, -⟩ | ⟨g1, g2, g3, g4, g5, g6⟩
    · omega
    · have m1 : ∀ o k, o < 468 → M2 o k = Mc o k := fun o k a => by rw [g6 o k (by omega) (by omega), up_o (by omega)]
      have hCRc : CR Mc := by
        obtain ⟨d1, d2, d3⟩ := h.cr
        have x0 : ∀ k, k ≠ 11 → Mc 0 k = M 0 k := fun k hk => by rw [he 0 k (by omega), up_k hk]
        have x1 : Mc 0 11 = M 0 11 + 1 := by rw [he 0 11 (by omega), up_s]
        have x2 : ∀ o k, 48 ≤ o → Mc o k = M o k := fun o k a => by rw [he o k (by omega), up_o (by omega)]
        refine ⟨?_, fun r r0 r1 => ?_, fun p p0 p1 => ?_⟩
        · rw [x1, x0 10 (by omega), x0 12 (by omega), x0 13 (by omega)]; omega
        · rw [x0 12 (by omega)] at r1
          rw [x1, x0 10 (by omega), x2 _ 4 (by omega), x2 _ 5 (by omega), x2 _ 6 (by omega), x2 _ 7 (by omega), x2 _ 8 (by omega), x2 _ 9 (by omega)]
          have := d2 r r0 r1
          omega
        · rw [x0 10 (by omega)] at p1
          rw [x2 _ 1 (by omega), x2 _ 2 (by omega), x2 _ 3 (by omega)]
          exact d3 p p0 p1
      have hlo : LO Mc M2 := fun o k a => m1 o k (by omega)
      refine ⟨by omega, fun _ => by rw [up_s, hz, g2, c2], q, ?_⟩
      refine h.addt (by omega) (fun o k a b => ?_) ?_ (hb0.lo hCRc (by omega) hlo) (hb1.lo hCRc (by omega) hlo) (fun o k a b d e => ?_) g4 g5
      · rw [m1 o k (by omega), he o k (by omega), up_n (by omega)]
      · rw [m1 0 11 (by omega), he 0 11 (by omega), up_s, c2]
      · rw [g6 o k e d, hh o k a b (by omega)]
  · have e0 := hMw.symm
    subst e0
    refine ⟨fun _ _ _ _ _ => rfl, fun zr M2 hr => ?_⟩
    rcases hr with ⟨g, rfl⟩ | ⟨g, -⟩
    · exact ⟨by rw [up_s]; omega, fun w => by omega, q, h.code _⟩
    · omega
theorem s_freeze {n : Int} {q : Int → List Int} {M : Mem} (h : JJn n q M) (hn : 0 ≤ n ∧ n ≤ 512) (m : Int) (hm : rg m) {kw : Int} {Mw : Mem} (hw : (kw = 0 ∧ ∃ z Mc, ((0 ≤ m ∧ m ≤ 999) ∧ M 0 13 = 1000 ∧ z = cnt (fun r => m ≤ M (8 * r + 148) 6) (M 0 12) ∧ ∃ M1, FZ1 M m (M 0 12) M1 ∧ (∀ a k, ¬ (27 ≤ a ∧ a ≤ 40) → Mc a k = M1 a k) ∧ BOK Mc 27 0 ∧ BOK Mc 34 1) ∧ Mw = up Mc 497 0 (wr z)) ∨ (kw = 1 ∧ (¬ (0 ≤ m ∧ m ≤ 999)) ∧ Mw = M) ∨ (kw = 2 ∧ ((0 ≤ m ∧ m ≤ 999) ∧ M 0 13 ≠ 1000) ∧ Mw = M)) : HI M Mw ∧ ∀ (zr : Int) (M9 : Mem), ((¬ (0 ≤ m ∧ m ≤ 999) ∧ M9 = up Mw 468 0 1) ∨ (((0 ≤ m ∧ m ≤ 999) ∧ Mw 468 36 ≠ -1) ∧ M9 = up Mw 468 0 2) ∨ (((0 ≤ m ∧ m ≤ 999) ∧ Mw 468 36 = -1) ∧ zr = cnt (fun r => Pnd (up (up Mw 468 0 0) 468 36 m) r) (Mw 468 18) ∧ M9 = (up (up Mw 468 0 0) 468 36 m))) → M9 468 0 = kw ∧ (kw = 0 → Mw 497 0 = wr zr) ∧ ∃ q2, JJn (n + 1) q2 M9 := by
  have i0 := h.rb.rng
  obtain ⟨⟨c1, c2, c3⟩, c4⟩ := h.cns
  rcases hw with ⟨hk, z, Mc, ⟨hm9, h13, hz, M1, hF, he, hb0, hb1⟩, hMw⟩ | ⟨hk, hS, hMw⟩ | ⟨hk, ⟨hS, h20⟩, hMw⟩
  · have e0 := hMw.symm
    subst e0
    have hC1 := hF.cr h.cr hm9.1 hm9.2
    obtain ⟨F1, F2, F3⟩ := hF
    have hfr : ∀ o k, 148 + 320 ≤ o → M1 o k = M o k := fun o k a => F2 o k (by omega) (fun r r0 r1 => by omega)
    have hh : HI M (up Mc 497 0 (wr z)) := fun o k a b d => by rw [up_o (by omega), he o k (by omega), hfr o k (by omega)]
    refine ⟨hh, ?_⟩
    intro zr M2 hr
    rw [hh 468 36 (by omega) (by omega) (by omega)] at hr
    rcases c4 with ⟨x1, x2, x3⟩ | ⟨x1, x2⟩
    · rcases hr with ⟨g, -⟩ | ⟨⟨-, g⟩, -⟩ | ⟨-, g2, rfl⟩
      · exact absurd hm9 g
      · exact absurd x2 g
      · have hw0 : ∀ o k, o < 468 → (up (up (up Mc 497 0 (wr z)) 468 0 0) 468 36 m) o k = Mc o k := fun o k a => by simp (disch := omega) only [up_o]
        have hCc : CR Mc := hC1.fin (fun a k ha => he a k (by omega))
        have hlo : LO Mc (up (up (up Mc 497 0 (wr z)) 468 0 0) 468 36 m) := fun o k a => hw0 o k (by omega)
        have hP : ∀ r, 0 ≤ r → r < M 468 18 → (Pnd (up (up (up Mc 497 0 (wr z)) 468 0 0) 468 36 m) r ↔ m ≤ M (8 * r + 148) 6) := fun r r0 r1 => by
          unfold Pnd
          simp (disch := omega) only [up_s, up_o]
          rw [he 483 r (by omega), he 496 r (by omega), hfr 483 r (by omega), hfr 496 r (by omega), x3 r r0 (by omega), (h.rns r r0 r1).1.2.2]
          constructor
          · rintro ⟨-, a, -⟩; exact a
          · intro a; exact ⟨by omega, a, rfl⟩
        refine ⟨by simp (disch := omega) only [up_s, up_o, up_k] <;> omega, fun _ => ?_, q, ?_⟩
        · rw [up_s, hz, g2, hh 468 18 (by omega) (by omega) (by omega), c3]
          rw [cnt_congr (Q := fun r => m ≤ M (8 * r + 148) 6) (by omega) hP]
        · refine h.pdg (fun o k a b d => ?_) (hb0.lo hCc (by omega) hlo) (hb1.lo hCc (by omega) hlo) (hCc.lo hlo) ((h.rb.hi hh).frz hm9.1 hm9.2) (fun o k a b d e => ?_) (Or.inr ⟨?_, ?_⟩) (fun r r0 r1 => ?_)
          · rw [hw0 o k (by omega), he o k (by omega)]
            exact F2 o k b (fun r r0 r1 => d r r0 (by omega))
          · rw [up_n (by omega), up_n (by omega), hh o k a b (by omega)]
          · rw [up_s]; exact hm9.1
          · rw [up_s, hw0 0 13 (by omega), he 0 13 (by omega)]; exact F1
          · rw [hP r r0 r1, hw0 _ 7 (by omega), he _ 7 (by omega), F3 r r0 (by omega)]
            split
            · rename_i w; exact ⟨fun _ => w, fun _ => by omega⟩
            · rename_i w; exact ⟨fun y => absurd rfl y, fun y => absurd y w⟩
    · omega
  · have e0 := hMw.symm
    subst e0
    refine ⟨fun _ _ _ _ _ => rfl, fun zr M2 hr => ?_⟩
    rcases hr with ⟨g, rfl⟩ | ⟨⟨g, -⟩, -⟩ | ⟨⟨g, -⟩, -⟩
    · exact ⟨by rw [up_s]; omega, fun w => by omega, q, h.code _⟩
    · exact absurd g hS
    · exact absurd g hS
  · have e0 := hMw.symm
    subst e0
    refine ⟨fun _ _ _ _ _ => rfl, fun zr M2 hr => ?_⟩
    rcases hr with ⟨g, -⟩ | ⟨⟨g, -⟩, rfl⟩ | ⟨⟨g, g1⟩, -⟩
    · exact absurd hS g
    · exact ⟨by rw [up_s]; omega, fun w => by omega, q, h.code _⟩
    · omega
theorem s_open {n : Int} {q : Int → List Int} {M : Mem} (h : JJn n q M) (hn : 0 ≤ n ∧ n ≤ 512)  {kw : Int} {Mw : Mem} (hw : (kw = 0 ∧ ∃ z Mc, ((∃ i, 0 ≤ i ∧ i < M 0 11 ∧ z = M 40 i ∧ cpi M z ≠ -1 ∧ ∀ j, i < j → j < M 0 11 → cpi M (M 40 j) = -1) ∧ ∃ M1, OPN M z (cpi M z) M1 ∧ (∀ a k, ¬ (27 ≤ a ∧ a ≤ 40) → Mc a k = M1 a k) ∧ BOK Mc 27 0 ∧ BOK Mc 34 1) ∧ Mw = up Mc 497 0 (wr z)) ∨ (kw = 1 ∧ (∀ i, 0 ≤ i → i < M 0 11 → cpi M (M 40 i) = -1) ∧ Mw = M)) : HI M Mw ∧ ∀ (zr : Int) (M9 : Mem), (((∀ q, 0 ≤ q → q < Mw 468 17 → PIn Mw q = -1) ∧ M9 = up Mw 468 0 1) ∨ ((0 ≤ zr ∧ zr < Mw 468 17 ∧ PIn Mw zr ≠ -1 ∧ ∀ q, 0 ≤ q → q < Mw 468 17 → PIn Mw q ≠ -1 → q ≠ zr → Ahd Mw 1 q zr) ∧ M9 468 0 = 0 ∧ (∀ o k, o ≠ 496 → ¬ (o = 468 ∧ k = 0) → M9 o k = Mw o k) ∧ ∀ q, M9 496 q = @ite Int ((0 ≤ q ∧ q < Mw 468 18) ∧ Mw 481 q = zr ∧ Mw 482 q = PIn Mw zr ∧ Pnd Mw q) (Classical.propDecidable _) 1 (Mw 496 q))) → M9 468 0 = kw ∧ (kw = 0 → Mw 497 0 = wr zr) ∧ ∃ q2, JJn (n + 1) q2 M9 := by
  have i0 := h.rb.rng
  obtain ⟨⟨c1, c2, c3⟩, c4⟩ := h.cns
  rcases hw with ⟨hk, z, Mc, ⟨⟨i, j0, j1, hz, hpi, hlast⟩, M1, hF, he, hb0, hb1⟩, hMw⟩ | ⟨hk, hS, hMw⟩
  · have e0 := hMw.symm
    subst e0
    have hC1 := hF.cr h.cr
    obtain ⟨F2, F3⟩ := hF
    have hfr : ∀ o k, 148 + 320 ≤ o → M1 o k = M o k := fun o k a => F2 o k (fun r r0 r1 => by omega)
    have hh : HI M (up Mc 497 0 (wr z)) := fun o k a b d => by rw [up_o (by omega), he o k (by omega), hfr o k (by omega)]
    refine ⟨hh, ?_⟩
    obtain ⟨o1, o2, o3⟩ := h.b1.2.2
    have hzr : 0 ≤ z ∧ z < M 468 17 := by
      have := o1 i j0 j1
      rw [show (34 : Int) + 6 = 40 by omega, ← hz] at this
      omega
    intro zr M2 hr
    rcases hr with ⟨g, -⟩ | ⟨⟨g1, g2, g3, g4⟩, g5, g6, g7⟩
    · refine absurd ((PIn.hi hh z).symm.trans (g z hzr.1 (by rw [hh 468 17 (by omega) (by omega) (by omega)]; exact hzr.2))) ?_
      rw [← h.pin]
      exact hpi
    · rw [hh 468 17 (by omega) (by omega) (by omega)] at g2 g4
      have hzz : z = zr := by
        refine Classical.byContradiction fun hne => ?_
        obtain ⟨j, y0, y1, y2⟩ := o3 zr g1 (by omega)
        rw [show (34 : Int) + 6 = 40 by omega] at y2
        rcases Int.lt_trichotomy i j with w | w | w
        · have a := hlast j w y1
          rw [y2, h.pin] at a
          rw [PIn.hi hh] at g3
          exact g3 a
        · rw [w, y2] at hz; exact hne hz
        · have a := o2 j i y0 w j1
          rw [show (34 : Int) + 6 = 40 by omega, y2, ← hz] at a
          have a2 := (h.ahd h.b1 g1 (by omega) hzr.1 (by omega)).mp a
          have a3 := g4 z hzr.1 hzr.2 (by rw [PIn.hi hh, ← h.pin]; exact hpi) hne
          rw [Ahd.hi hh] at a3
          exact Ahd.irr (a2.trans a3)
      subst hzz
      have m1 : ∀ o k, o < 468 → M2 o k = Mc o k := fun o k a => by rw [g6 o k (by omega) (by omega), up_o (by omega)]
      have hCc : CR Mc := hC1.fin (fun a k ha => he a k (by omega))
      have hlo : LO Mc M2 := fun o k a => m1 o k (by omega)
      have x18 := hh 468 18 (by omega) (by omega) (by omega)
      have g7' : ∀ r, 0 ≤ r → r < M 468 18 → M2 496 r = @ite Int (M 481 r = z ∧ M 482 r = PIn M z ∧ Pnd M r) (Classical.propDecidable _) 1 (M 496 r) := fun r r0 r1 => by
        rw [g7 r, x18, hh 481 r (by omega) (by omega) (by omega), hh 482 r (by omega) (by omega) (by omega), hh 496 r (by omega) (by omega) (by omega), PIn.hi hh, Pnd.fine (hh 468 36 (by omega) (by omega) (by omega)) (hh 483 r (by omega) (by omega) (by omega)) (hh 496 r (by omega) (by omega) (by omega))]
        by_cases w : M 481 r = z ∧ M 482 r = PIn M z ∧ Pnd M r
        · rw [if_pos w, if_pos ⟨⟨r0, r1⟩, w⟩]
        · rw [if_neg w, if_neg (fun y => w y.2)]
      have g7o : ∀ r, M 468 18 ≤ r → M2 496 r = M 496 r := fun r r1 => by
        rw [g7 r, x18, if_neg (fun y => by have := y.1.2; omega), hh 496 r (by omega) (by omega) (by omega)]
      have hI2 : RB M2 := RB.opened (h.rb.hi hh) g6 (fun r r0 r1 => by
        rw [x18, hh 496 r (by omega) (by omega) (by omega)]
        by_cases w : r < M 468 18
        · rw [g7' r r0 w]
          by_cases w2 : M 481 r = z ∧ M 482 r = PIn M z ∧ Pnd M r
          · rw [if_pos w2]; exact Or.inr ⟨rfl, w⟩
          · rw [if_neg w2]; exact Or.inl rfl
        · exact Or.inl (g7o r (by omega)))
      have e36 : M2 468 36 = M 468 36 := by rw [g6 468 36 (by omega) (by omega), hh 468 36 (by omega) (by omega) (by omega)]
      refine ⟨by omega, fun _ => by rw [up_s], q, ?_⟩
      refine h.pdg (fun o k a b d => ?_) (hb0.lo hCc (by omega) hlo) (hb1.lo hCc (by omega) hlo) (hCc.lo hlo) hI2 (fun o k a b d e => ?_) ?_ (fun r r0 r1 => ?_)
      · rw [m1 o k (by omega), he o k (by omega)]
        exact F2 o k (fun r r0 r1 => d r r0 (by omega))
      · rw [g6 o k e (by omega), hh o k a b (by omega)]
      · have e13 : M2 0 13 = M 0 13 := by rw [m1 0 13 (by omega), he 0 13 (by omega), F2 0 13 (fun r r0 r1 => by omega)]
        rw [e13, e36]
        rcases c4 with ⟨x1, x2, x3⟩ | ⟨x1, x2⟩
        · refine Or.inl ⟨x1, x2, fun r r0 r1 => ?_⟩
          by_cases w : r < M 468 18
          · rw [g7' r r0 w, if_neg (fun y => y.2.2.1 x2)]
            exact x3 r r0 r1
          · rw [g7o r (by omega)]; exact x3 r r0 r1
        · exact Or.inr ⟨x1, x2⟩
      · obtain ⟨⟨y1, y2, y3⟩, y4, -⟩ := h.rns r r0 r1
        rw [m1 _ 7 (by omega), he _ 7 (by omega), F3 r r0 (by omega), y1, y2, h.pin]
        have e83 : M2 483 r = M 483 r := by rw [g6 483 r (by omega) (by omega), hh 483 r (by omega) (by omega) (by omega)]
        have e96 := g7' r r0 r1
        by_cases w : M 481 r = z ∧ M 482 r = PIn M z
        · rw [if_pos w]
          constructor
          · intro a; exact absurd rfl a
          · rintro ⟨a1, a2, a3⟩
            by_cases w2 : Pnd M r
            · rw [e96, if_pos ⟨w.1, w.2, w2⟩] at a3; omega
            · rw [e96, if_neg (fun y => w2 y.2.2)] at a3
              rw [e36] at a1 a2
              rw [e83] at a2
              exact absurd ⟨a1, a2, a3⟩ w2
        · rw [if_neg w, y4]
          rw [if_neg (fun y => w ⟨y.1, y.2.1⟩)] at e96
          exact (Pnd.fine e36 e83 e96).symm
  · have e0 := hMw.symm
    subst e0
    refine ⟨fun _ _ _ _ _ => rfl, fun zr M2 hr => ?_⟩
    rcases hr with ⟨g, rfl⟩ | ⟨⟨g1, g2, g3, g4⟩, -⟩
    · exact ⟨by rw [up_s]; omega, fun w => by omega, q, h.code _⟩
    · obtain ⟨o1, o2, o3⟩ := h.b1.2.2
      obtain ⟨j, y0, y1, y2⟩ := o3 zr g1 (by omega)
      rw [show (34 : Int) + 6 = 40 by omega] at y2
      have a := hS j y0 y1
      rw [y2, h.pin] at a
      exact absurd a g3
